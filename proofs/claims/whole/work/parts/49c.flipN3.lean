/-! THE MODEL: a flip done -/
set_option maxHeartbeats 400000 in
theorem c_X9_does {l : Launch} {c a b K : Nat} {B : HP} {μ : Mem} {Q : Option Value → Mem → Prop} (hA : HA c 1 256) (hK : HOK K B) (hB : BA μ c B) (ha : a < 256) (hb : prt K B a = b) (hn : ¬ b = 0) (hQ : ∀ μ', frm [c] μ μ' → BA μ' c (flp K B a) → Q none μ') : CC l 0 mX9_does [.ref 24, .ref c, .int (nI a), .int (nI b)] μ Q := by
  refine CC.of (M := mX9_does) (by decide +kernel) rfl (fun v h => by simp at h; rcases h with rfl | rfl | rfl | rfl <;> rfl) (Nat.le_of_ble_eq_true rfl) (fun X hX => ?_)
  have hc := hX.cx
  have hblt : b < 256 := by rw [← hb]; exact prt_lt K B a
  have hor := or_lt ha hblt
  have L2 : ∀ (n p : Nat) (ν : Mem), p + n = 8 → frm [c] μ ν → (∀ t, t < 256 → ν c t = bI (insA a (a ||| b) p t || (!decide (t &&& a = a) && B t))) → TT X 33 [.ref 24, .ref c, .int (nI a), .int (nI b), .int (nI p)] [] ν := by
    intro n
    induction n with
    | zero =>
      intro p ν hp hf hv
      have hp : p = 8 := by omega
      subst hp
      subst hb
      refine tt_il4 (q := 35) hc dX9_does_33 rfl ?_
      refine tt_bipush (v := nI 8) (q := 37) hc (by decide) dX9_does_35 rfl ?_
      first | (with_reducible refine chk2 ?_; refine tt_icgeN (t := 69) (q := 40) hc (by omega) (by omega) dX9_does_37 rfl rfl (fun c_37 => ?_) (fun c_37 => ?_)) | refine tt_icge (t := 69) (q := 40) hc dX9_does_37 rfl rfl (fun c_37 => ?_) (fun c_37 => ?_)
      · refine tt_retv hX rfl dX9_does_69 ?_
        exact hQ ν hf (fun t ht => by rw [hv t ht, flp_does hK ha hn ht])
      · omega
    | succ n ih =>
      intro p ν hp hf hv
      have h1 : a / 2 ^ p &&& 1 ≤ 1 := Nat.and_le_right
      have hx : (a ||| b) ^^^ ((a ||| b) &&& 2 ^ p) < 256 := Nat.xor_lt_two_pow (n := 8) hor (and_lt hor)
      refine tt_il4 (q := 35) hc dX9_does_33 rfl ?_
      refine tt_bipush (v := nI 8) (q := 37) hc (by decide) dX9_does_35 rfl ?_
      first | (with_reducible refine chk2 ?_; refine tt_icgeN (t := 69) (q := 40) hc (by omega) (by omega) dX9_does_37 rfl rfl (fun c_37 => ?_) (fun c_37 => ?_)) | refine tt_icge (t := 69) (q := 40) hc dX9_does_37 rfl rfl (fun c_37 => ?_) (fun c_37 => ?_)
      · omega
      · refine tt_il2 (q := 41) hc dX9_does_40 rfl ?_
        refine tt_il4 (q := 43) hc dX9_does_41 rfl ?_
        first | (with_reducible refine chk2 ?_; refine tt_ishrN (q := 44) hc (by omega) (by omega) dX9_does_43 rfl ?_) | refine tt_ishr (q := 44) hc dX9_does_43 rfl ?_
        refine tt_iconst (v := nI 1) (q := 45) hc rfl dX9_does_44 rfl ?_
        first | (with_reducible refine chk2 ?_; refine tt_iandN (q := 46) hc dX9_does_45 rfl ?_) | (with_reducible refine chkan ?_; refine tt_iandnN (q := 46) hc dX9_does_45 rfl ?_) | (with_reducible refine chkna ?_; refine tt_inandN (q := 46) hc dX9_does_45 rfl ?_) | refine tt_iand (q := 46) hc dX9_does_45 rfl ?_
        refine tt_iconst (v := nI 1) (q := 47) hc rfl dX9_does_46 rfl ?_
        first | (with_reducible refine chk2 ?_; refine tt_icneN (t := 63) (q := 50) hc (by omega) (by omega) dX9_does_47 rfl rfl (fun c_47 => ?_) (fun c_47 => ?_)) | refine tt_icne (t := 63) (q := 50) hc dX9_does_47 rfl rfl (fun c_47 => ?_) (fun c_47 => ?_)
        · first | refine tt_inc4 (q := 66) hc dX9_does_63 rfl (by decide) (incN _) ?_ | refine tt_inc4 (q := 66) hc dX9_does_63 rfl (by decide) rfl ?_
          refine tt_goto (t := 33) hc dX9_does_66 rfl ?_
          first
          | (have z : ¬ (a / 2 ^ p) &&& 1 = 1 := c_47
             refine ih (p + 1) ν (by omega) hf (fun t ht => ?_)
             rw [hv t ht, insA, decide_eq_false c_47, Bool.false_and, Bool.or_false])
          | (have z : (a / 2 ^ p) &&& 1 = 1 := c_47
             refine ih (p + 1) _ (by omega) (hf.tr frm.set) (fun t ht => ?_)
             rw [mset_eq, insA, decide_eq_true c_47, Bool.true_and]
             by_cases e : t = (a ||| b) ^^^ ((a ||| b) &&& 2 ^ p)
             · subst e
               rw [pk_us, decide_eq_true rfl, Bool.or_true, Bool.true_or]
               rfl
             · rw [pk_un e, hv t ht, decide_eq_false e, Bool.or_false])
        · refine tt_al1 (q := 51) hc dX9_does_50 rfl ?_
          refine tt_il2 (q := 52) hc dX9_does_51 rfl ?_
          refine tt_il3 (q := 53) hc dX9_does_52 rfl ?_
          first | (with_reducible refine chk2 ?_; refine tt_iorN (q := 54) hc dX9_does_53 rfl ?_) | refine tt_ior (q := 54) hc dX9_does_53 rfl ?_
          refine tt_iconst (v := nI 1) (q := 55) hc rfl dX9_does_54 rfl ?_
          refine tt_il4 (q := 57) hc dX9_does_55 rfl ?_
          first | (with_reducible refine chks ?_; refine tt_ishl1 (q := 58) hc (by omega) dX9_does_57 rfl ?_) | (with_reducible refine chk2 ?_; refine tt_ishlN (q := 58) hc (by omega) (by omega) dX9_does_57 rfl ?_) | refine tt_ishl (q := 58) hc dX9_does_57 rfl ?_
          refine tt_iconst (v := -1) (q := 59) hc rfl dX9_does_58 rfl ?_
          first | (with_reducible refine chk2 ?_; refine tt_ixorN (q := 60) hc dX9_does_59 rfl ?_) | refine tt_ixor (q := 60) hc dX9_does_59 rfl ?_
          first | (with_reducible refine chk2 ?_; refine tt_iandN (q := 61) hc dX9_does_60 rfl ?_) | (with_reducible refine chkan ?_; refine tt_iandnN (q := 61) hc dX9_does_60 rfl ?_) | (with_reducible refine chkna ?_; refine tt_inandN (q := 61) hc dX9_does_60 rfl ?_) | refine tt_iand (q := 61) hc dX9_does_60 rfl ?_
          refine tt_iconst (v := nI 1) (q := 62) hc rfl dX9_does_61 rfl ?_
          refine tt_zast (q := 63) hc (by first | assumption | exact ⟨by decide, rfl, by decide⟩) (by omega) (by first | decide | exact bI_01 _) dX9_does_62 rfl ?_
          first | refine tt_inc4 (q := 66) hc dX9_does_63 rfl (by decide) (incN _) ?_ | refine tt_inc4 (q := 66) hc dX9_does_63 rfl (by decide) rfl ?_
          refine tt_goto (t := 33) hc dX9_does_66 rfl ?_
          first
          | (have z : ¬ (a / 2 ^ p) &&& 1 = 1 := c_47
             refine ih (p + 1) ν (by omega) hf (fun t ht => ?_)
             rw [hv t ht, insA, decide_eq_false c_47, Bool.false_and, Bool.or_false])
          | (have z : (a / 2 ^ p) &&& 1 = 1 := c_47
             refine ih (p + 1) _ (by omega) (hf.tr frm.set) (fun t ht => ?_)
             rw [mset_eq, insA, decide_eq_true c_47, Bool.true_and]
             by_cases e : t = (a ||| b) ^^^ ((a ||| b) &&& 2 ^ p)
             · subst e
               rw [pk_us, decide_eq_true rfl, Bool.or_true, Bool.true_or]
               rfl
             · rw [pk_un e, hv t ht, decide_eq_false e, Bool.or_false])
  have L1 : ∀ (n s : Nat) (ν : Mem), s + n = 256 → 0 < s → frm [c] μ ν → (∀ t, t < 256 → ν c t = bI (if t < s ∧ t &&& a = a then false else B t)) → TT X 3 [.ref 24, .ref c, .int (nI a), .int (nI b), .int (nI s)] [] ν := by
    intro n
    induction n with
    | zero =>
      intro s ν hs h0 hf hv
      have hs : s = 256 := by omega
      subst hs
      refine tt_il4 (q := 5) hc dX9_does_3 rfl ?_
      refine tt_sipush (v := nI 256) (q := 8) hc (by decide) dX9_does_5 rfl ?_
      first | (with_reducible refine chk2 ?_; refine tt_icgeN (t := 30) (q := 11) hc (by omega) (by omega) dX9_does_8 rfl rfl (fun c_8 => ?_) (fun c_8 => ?_)) | refine tt_icge (t := 30) (q := 11) hc dX9_does_8 rfl rfl (fun c_8 => ?_) (fun c_8 => ?_)
      · refine tt_iconst (v := nI 0) (q := 31) hc rfl dX9_does_30 rfl ?_
        refine tt_is4 (q := 33) hc dX9_does_31 rfl (by decide) ?_
        refine L2 8 0 ν rfl hf (fun t ht => ?_)
        rw [hv t ht, insA, Bool.false_or]
        by_cases e : t &&& a = a <;> simp [e, ht]
      · omega
    | succ n ih =>
      intro s ν hs h0 hf hv
      have han := and_lt (a := s) (b := a) (by omega)
      refine tt_il4 (q := 5) hc dX9_does_3 rfl ?_
      refine tt_sipush (v := nI 256) (q := 8) hc (by decide) dX9_does_5 rfl ?_
      first | (with_reducible refine chk2 ?_; refine tt_icgeN (t := 30) (q := 11) hc (by omega) (by omega) dX9_does_8 rfl rfl (fun c_8 => ?_) (fun c_8 => ?_)) | refine tt_icge (t := 30) (q := 11) hc dX9_does_8 rfl rfl (fun c_8 => ?_) (fun c_8 => ?_)
      · omega
      · refine tt_il4 (q := 13) hc dX9_does_11 rfl ?_
        refine tt_il2 (q := 14) hc dX9_does_13 rfl ?_
        first | (with_reducible refine chk2 ?_; refine tt_iandN (q := 15) hc dX9_does_14 rfl ?_) | (with_reducible refine chkan ?_; refine tt_iandnN (q := 15) hc dX9_does_14 rfl ?_) | (with_reducible refine chkna ?_; refine tt_inandN (q := 15) hc dX9_does_14 rfl ?_) | refine tt_iand (q := 15) hc dX9_does_14 rfl ?_
        refine tt_il2 (q := 16) hc dX9_does_15 rfl ?_
        first | (with_reducible refine chk2 ?_; refine tt_icneN (t := 24) (q := 19) hc (by omega) (by omega) dX9_does_16 rfl rfl (fun c_16 => ?_) (fun c_16 => ?_)) | refine tt_icne (t := 24) (q := 19) hc dX9_does_16 rfl rfl (fun c_16 => ?_) (fun c_16 => ?_)
        · first | refine tt_inc4 (q := 27) hc dX9_does_24 rfl (by decide) (incN _) ?_ | refine tt_inc4 (q := 27) hc dX9_does_24 rfl (by decide) rfl ?_
          refine tt_goto (t := 3) hc dX9_does_27 rfl ?_
          first
          | (have z : ¬ s &&& a = a := c_16
             refine ih (s + 1) ν (by omega) (by omega) hf (fun t ht => ?_)
             rw [hv t ht]
             by_cases e : t = s
             · subst e
               rw [if_neg (fun z => absurd z.1 (Nat.lt_irrefl _)), if_neg (fun z => c_16 z.2)]
             · by_cases e2 : t &&& a = a <;> simp [e2] <;> (have : t < s + 1 ↔ t < s := by omega) <;> simp [this])
          | (have z : s &&& a = a := c_16
             refine ih (s + 1) _ (by omega) (by omega) (hf.tr frm.set) (fun t ht => ?_)
             rw [mset_eq]
             by_cases e : t = s
             · subst e
               rw [pk_us, if_pos ⟨Nat.lt_succ_self _, c_16⟩]
               rfl
             · rw [pk_un e, hv t ht]
               by_cases e2 : t &&& a = a <;> simp [e2] <;> (have : t < s + 1 ↔ t < s := by omega) <;> simp [this])
        · refine tt_al1 (q := 20) hc dX9_does_19 rfl ?_
          refine tt_il4 (q := 22) hc dX9_does_20 rfl ?_
          refine tt_iconst (v := nI 0) (q := 23) hc rfl dX9_does_22 rfl ?_
          refine tt_zast (q := 24) hc (by first | assumption | exact ⟨by decide, rfl, by decide⟩) (by omega) (by first | decide | exact bI_01 _) dX9_does_23 rfl ?_
          first | refine tt_inc4 (q := 27) hc dX9_does_24 rfl (by decide) (incN _) ?_ | refine tt_inc4 (q := 27) hc dX9_does_24 rfl (by decide) rfl ?_
          refine tt_goto (t := 3) hc dX9_does_27 rfl ?_
          first
          | (have z : ¬ s &&& a = a := c_16
             refine ih (s + 1) ν (by omega) (by omega) hf (fun t ht => ?_)
             rw [hv t ht]
             by_cases e : t = s
             · subst e
               rw [if_neg (fun z => absurd z.1 (Nat.lt_irrefl _)), if_neg (fun z => c_16 z.2)]
             · by_cases e2 : t &&& a = a <;> simp [e2] <;> (have : t < s + 1 ↔ t < s := by omega) <;> simp [this])
          | (have z : s &&& a = a := c_16
             refine ih (s + 1) _ (by omega) (by omega) (hf.tr frm.set) (fun t ht => ?_)
             rw [mset_eq]
             by_cases e : t = s
             · subst e
               rw [pk_us, if_pos ⟨Nat.lt_succ_self _, c_16⟩]
               rfl
             · rw [pk_un e, hv t ht]
               by_cases e2 : t &&& a = a <;> simp [e2] <;> (have : t < s + 1 ↔ t < s := by omega) <;> simp [this])
  have ha0 : ¬ a = 0 := by
    have := (prt_pop hK ha (by rw [hb]; exact hn)).1
    omega
  refine tt_iconst (v := nI 1) (q := 1) hc rfl dX9_does_0 rfl ?_
  refine tt_is4 (q := 3) hc dX9_does_1 rfl (by decide) ?_
  refine L1 255 1 μ rfl (by decide) frm.rf (fun t ht => ?_)
  rw [hB t ht]
  split
  · rename_i z
    have : t = 0 := by omega
    subst this
    rw [h0no hK]
  · rfl
