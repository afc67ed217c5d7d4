/-! THE MODEL: alike -/
theorem HA37 : HA 37 0 8 := ⟨by decide, rfl, by decide⟩
set_option maxHeartbeats 1000000 in
theorem c_X9_named {l : Launch} {s : Nat} {q : Nat → Nat} {μ : Mem} {Q : Option Value → Mem → Prop} (hs : s < 256) (hq : ∀ i, i < 8 → s.testBit i = true → q i < 8 ∧ μ 37 i = nI (q i)) (hQ : Q (some (.int (nI (rnm q 8 s)))) μ) : CC l 0 mX9_named [.ref 24, .int (nI s)] μ Q := by
  refine CC.of (M := mX9_named) (by decide +kernel) rfl (fun v h => by simp at h; rcases h with rfl | rfl <;> rfl) (Nat.le_of_ble_eq_true rfl) (fun X hX => ?_)
  have hc := hX.cx
  have a37 := HA37
  have L : ∀ (n i : Nat), i + n = 8 → TT X 4 [.ref 24, .int (nI s), .int (nI (rnm q i s)), .int (nI i)] [] μ := by
    intro n
    induction n with
    | zero =>
      intro i hi
      have hi : i = 8 := by omega
      subst hi
      refine tt_il3 (q := 5) hc dX9_named_4 rfl ?_
      refine tt_bipush (v := nI 8) (q := 7) hc (by decide) dX9_named_5 rfl ?_
      first | (with_reducible refine chk2 ?_; refine tt_icgeN (t := 36) (q := 10) hc (by omega) (by omega) dX9_named_7 rfl rfl (fun c_7 => ?_) (fun c_7 => ?_)) | refine tt_icge (t := 36) (q := 10) hc dX9_named_7 rfl rfl (fun c_7 => ?_) (fun c_7 => ?_)
      · refine tt_il2 (q := 37) hc dX9_named_36 rfl ?_
        refine tt_reti hX rfl dX9_named_37 ?_
        exact hQ
      · omega
    | succ n ih =>
      intro i hi
      have hb := bit_cut (x := s) (q := i)
      have h1 : s / 2 ^ i &&& 1 ≤ 1 := Nat.and_le_right
      have ih := ih (i + 1) (by omega)
      rw [rnm] at ih
      refine tt_il3 (q := 5) hc dX9_named_4 rfl ?_
      refine tt_bipush (v := nI 8) (q := 7) hc (by decide) dX9_named_5 rfl ?_
      first | (with_reducible refine chk2 ?_; refine tt_icgeN (t := 36) (q := 10) hc (by omega) (by omega) dX9_named_7 rfl rfl (fun c_7 => ?_) (fun c_7 => ?_)) | refine tt_icge (t := 36) (q := 10) hc dX9_named_7 rfl rfl (fun c_7 => ?_) (fun c_7 => ?_)
      · omega
      · refine tt_il1 (q := 11) hc dX9_named_10 rfl ?_
        refine tt_il3 (q := 12) hc dX9_named_11 rfl ?_
        first | (with_reducible refine chk2 ?_; refine tt_ishrN (q := 13) hc (by omega) (by omega) dX9_named_12 rfl ?_) | refine tt_ishr (q := 13) hc dX9_named_12 rfl ?_
        refine tt_iconst (v := nI 1) (q := 14) hc rfl dX9_named_13 rfl ?_
        first | (with_reducible refine chk2 ?_; refine tt_iandN (q := 15) hc dX9_named_14 rfl ?_) | (with_reducible refine chkan ?_; refine tt_iandnN (q := 15) hc dX9_named_14 rfl ?_) | (with_reducible refine chkna ?_; refine tt_inandN (q := 15) hc dX9_named_14 rfl ?_) | refine tt_iand (q := 15) hc dX9_named_14 rfl ?_
        refine tt_iconst (v := nI 1) (q := 16) hc rfl dX9_named_15 rfl ?_
        first | (with_reducible refine chk2 ?_; refine tt_icneN (t := 30) (q := 19) hc (by omega) (by omega) dX9_named_16 rfl rfl (fun c_16 => ?_) (fun c_16 => ?_)) | refine tt_icne (t := 30) (q := 19) hc dX9_named_16 rfl rfl (fun c_16 => ?_) (fun c_16 => ?_)
        · first | refine tt_inc3 (q := 33) hc dX9_named_30 rfl (by decide) (incN _) ?_ | refine tt_inc3 (q := 33) hc dX9_named_30 rfl (by decide) rfl ?_
          refine tt_goto (t := 4) hc dX9_named_33 rfl ?_
          first
          | (have z : ¬ (s / 2 ^ i) &&& 1 = 1 := c_16
             rw [if_neg (fun y => z (hb.mpr y))] at ih
             exact ih)
          | (have z : (s / 2 ^ i) &&& 1 = 1 := c_16
             rw [if_pos (hb.mp z)] at ih
             exact ih)
        · refine tt_il2 (q := 20) hc dX9_named_19 rfl ?_
          refine tt_iconst (v := nI 1) (q := 21) hc rfl dX9_named_20 rfl ?_
          refine tt_al0 (q := 22) hc dX9_named_21 rfl ?_
          refine tt_getR (q := 25) hc fl_X9_60 (by first | assumption | exact ⟨by decide, _, rfl, rfl⟩) dX9_named_22 rfl ?_
          refine tt_il3 (q := 26) hc dX9_named_25 rfl ?_
          refine tt_iald (q := 27) hc (by first | assumption | exact ⟨by decide, rfl, by decide⟩) (by omega) dX9_named_26 rfl ?_
          obtain ⟨q1, q2⟩ := hq i (by omega) (hb.mp c_16)
          rw [q2]
          first | (with_reducible refine chks ?_; refine tt_ishl1 (q := 28) hc (by omega) dX9_named_27 rfl ?_) | (with_reducible refine chk2 ?_; refine tt_ishlN (q := 28) hc (by omega) (by omega) dX9_named_27 rfl ?_) | refine tt_ishl (q := 28) hc dX9_named_27 rfl ?_
          first | (with_reducible refine chk2 ?_; refine tt_iorN (q := 29) hc dX9_named_28 rfl ?_) | refine tt_ior (q := 29) hc dX9_named_28 rfl ?_
          refine tt_is2 (q := 30) hc dX9_named_29 rfl (by decide) ?_
          first | refine tt_inc3 (q := 33) hc dX9_named_30 rfl (by decide) (incN _) ?_ | refine tt_inc3 (q := 33) hc dX9_named_30 rfl (by decide) rfl ?_
          refine tt_goto (t := 4) hc dX9_named_33 rfl ?_
          first
          | (have z : ¬ (s / 2 ^ i) &&& 1 = 1 := c_16
             rw [if_neg (fun y => z (hb.mpr y))] at ih
             exact ih)
          | (have z : (s / 2 ^ i) &&& 1 = 1 := c_16
             rw [if_pos (hb.mp z)] at ih
             exact ih)
  refine tt_iconst (v := nI 0) (q := 1) hc rfl dX9_named_0 rfl ?_
  refine tt_is2 (q := 2) hc dX9_named_1 rfl (by decide) ?_
  refine tt_iconst (v := nI 0) (q := 3) hc rfl dX9_named_2 rfl ?_
  refine tt_is3 (q := 4) hc dX9_named_3 rfl (by decide) ?_
  exact L 8 0 rfl
set_option maxHeartbeats 1000000 in
theorem c_X9_areNamed {l : Launch} {s p : Nat} {μ : Mem} {Q : Option Value → Mem → Prop} (hs : s < 256) (hp : p ≤ 8) (hQ : Q (some (.int (bI (decide (s / 2 ^ p = 0))))) μ) : CC l 0 mX9_areNamed [.int (nI s), .int (nI p)] μ Q := by
  refine CC.of (M := mX9_areNamed) (by decide +kernel) rfl (fun v h => by simp at h; rcases h with rfl | rfl <;> rfl) (Nat.le_of_ble_eq_true rfl) (fun X hX => ?_)
  have hc := hX.cx
  have hd : s / 2 ^ p ≤ s := Nat.div_le_self _ _
  refine tt_il0 (q := 1) hc dX9_areNamed_0 rfl ?_
  refine tt_il1 (q := 2) hc dX9_areNamed_1 rfl ?_
  first | (with_reducible refine chk2 ?_; refine tt_ishrN (q := 3) hc (by omega) (by omega) dX9_areNamed_2 rfl ?_) | refine tt_ishr (q := 3) hc dX9_areNamed_2 rfl ?_
  first | (with_reducible refine chkb ?_; refine tt_ifneB (t := 10) (q := 6) hc dX9_areNamed_3 rfl rfl (fun c_3 => ?_) (fun c_3 => ?_)) | (with_reducible refine chk1 ?_; refine tt_ifneN (t := 10) (q := 6) hc (by omega) dX9_areNamed_3 rfl rfl (fun c_3 => ?_) (fun c_3 => ?_)) | refine tt_ifne (t := 10) (q := 6) hc dX9_areNamed_3 rfl rfl (fun c_3 => ?_) (fun c_3 => ?_)
  · refine tt_iconst (v := nI 0) (q := 11) hc rfl dX9_areNamed_10 rfl ?_
    refine tt_retz hX rfl (by first | decide | exact bI_01 _) dX9_areNamed_11 ?_
    first
    | exact qb1 hQ (decide_eq_true c_3)
    | exact qb0 hQ (decide_eq_false (Nat.ne_of_gt c_3))
  · refine tt_iconst (v := nI 1) (q := 7) hc rfl dX9_areNamed_6 rfl ?_
    refine tt_goto (t := 11) hc dX9_areNamed_7 rfl ?_
    refine tt_retz hX rfl (by first | decide | exact bI_01 _) dX9_areNamed_11 ?_
    first
    | exact qb1 hQ (decide_eq_true c_3)
    | exact qb0 hQ (decide_eq_false (Nat.ne_of_gt c_3))
set_option maxHeartbeats 2000000 in
theorem cn_chk {l : Launch} {d g1 g2 p used : Nat} {B1 B2 : HP} {q : Nat → Nat} {μ : Mem} {Q : Option Value → Mem → Prop} {X : XT} (hX : Cm X l (d + 1) mX9_canName Q) (hA1 : HA g1 1 256) (hA2 : HA g2 1 256) (hp : p ≤ 8) (hq : ∀ i, i < p → q i < 8) (hB1 : BA μ g1 B1) (hB2 : BA μ g2 B2) (h37 : ∀ i, i < p → μ 37 i = nI (q i)) (hT : nwOK B1 B2 p q = true → ∀ w5 w6, TT X 71 [.ref 24, .int (nI p), .int (nI used), .ref g1, .ref g2, w5, w6] [] μ) (hF : nwOK B1 B2 p q = false → Q (some (.int (nI 0))) μ) (w6 : Value) : TT X 3 [.ref 24, .int (nI p), .int (nI used), .ref g1, .ref g2, .int (nI 1), w6] [] μ := by
  have hc := hX.cx
  have h2p : 2 ^ p ≤ 256 := Nat.pow_le_pow_right (n := 2) (by decide) hp
  have h2p0 := Nat.two_pow_pos p
  have L : 0 < p → ∀ (m s : Nat) (w6 : Value), s + m = 2 ^ p → 0 < s → (nok B1 B2 q p m s = true → ∀ w5 w6, TT X 71 [.ref 24, .int (nI p), .int (nI used), .ref g1, .ref g2, w5, w6] [] μ) → (nok B1 B2 q p m s = false → Q (some (.int (nI 0))) μ) → TT X 3 [.ref 24, .int (nI p), .int (nI used), .ref g1, .ref g2, .int (nI s), w6] [] μ := by
    intro hp0 m
    induction m with
    | zero =>
      intro s w6 hs h0 hT hF
      refine tt_il1 (q := 4) hc dX9_canName_3 rfl ?_
      first | (with_reducible refine chk1 ?_; refine tt_ifleN (t := 71) (q := 7) hc (by omega) dX9_canName_4 rfl rfl (fun c_4 => ?_) (fun c_4 => ?_)) | refine tt_ifle (t := 71) (q := 7) hc dX9_canName_4 rfl rfl (fun c_4 => ?_) (fun c_4 => ?_)
      · omega
      · refine tt_il5 (q := 9) hc dX9_canName_7 rfl ?_
        refine tt_iconst (v := nI 1) (q := 10) hc rfl dX9_canName_9 rfl ?_
        refine tt_il1 (q := 11) hc dX9_canName_10 rfl ?_
        first | (with_reducible refine chks ?_; refine tt_ishl1 (q := 12) hc (by omega) dX9_canName_11 rfl ?_) | (with_reducible refine chk2 ?_; refine tt_ishlN (q := 12) hc (by omega) (by omega) dX9_canName_11 rfl ?_) | refine tt_ishl (q := 12) hc dX9_canName_11 rfl ?_
        first | (with_reducible refine chk2 ?_; refine tt_icgeN (t := 71) (q := 15) hc (by omega) (by omega) dX9_canName_12 rfl rfl (fun c_12 => ?_) (fun c_12 => ?_)) | refine tt_icge (t := 71) (q := 15) hc dX9_canName_12 rfl rfl (fun c_12 => ?_) (fun c_12 => ?_)
        · exact hT rfl _ _
        · omega
    | succ m ih =>
      intro s w6 hs h0 hT hF
      have hs2 : s < 2 ^ p := by omega
      have hrl := rnm_lt p s hq
      have htr := rnm_tr8 (q := q) hp hs2
      have hqn : ∀ i, i < 8 → s.testBit i = true → q i < 8 ∧ μ 37 i = nI (q i) := fun i hi hb => by
        have : i < p := by
          rcases Nat.lt_or_ge i p with z | z
          · exact z
          · rw [Nat.testBit_lt_two_pow (Nat.lt_of_lt_of_le hs2 (Nat.pow_le_pow_right (by decide) z))] at hb
            cases hb
        exact ⟨hq i this, h37 i this⟩
      rw [nok] at hT hF
      have E : (!(decide (s / 2 ^ p = 0) && !decide (s / 2 ^ (p - 1) = 0)) || (B1 s == B2 (rnm q p s))) = true → TT X 3 [.ref 24, .int (nI p), .int (nI used), .ref g1, .ref g2, .int (nI (s + 1)), .int (nI 0)] [] μ ∧ TT X 3 [.ref 24, .int (nI p), .int (nI used), .ref g1, .ref g2, .int (nI (s + 1)), .int (nI 1)] [] μ := by
        intro z
        rw [z, Bool.true_and] at hT hF
        exact ⟨ih (s + 1) _ (by omega) (by omega) hT hF, ih (s + 1) _ (by omega) (by omega) hT hF⟩
      refine tt_il1 (q := 4) hc dX9_canName_3 rfl ?_
      first | (with_reducible refine chk1 ?_; refine tt_ifleN (t := 71) (q := 7) hc (by omega) dX9_canName_4 rfl rfl (fun c_4 => ?_) (fun c_4 => ?_)) | refine tt_ifle (t := 71) (q := 7) hc dX9_canName_4 rfl rfl (fun c_4 => ?_) (fun c_4 => ?_)
      · omega
      · refine tt_il5 (q := 9) hc dX9_canName_7 rfl ?_
        refine tt_iconst (v := nI 1) (q := 10) hc rfl dX9_canName_9 rfl ?_
        refine tt_il1 (q := 11) hc dX9_canName_10 rfl ?_
        first | (with_reducible refine chks ?_; refine tt_ishl1 (q := 12) hc (by omega) dX9_canName_11 rfl ?_) | (with_reducible refine chk2 ?_; refine tt_ishlN (q := 12) hc (by omega) (by omega) dX9_canName_11 rfl ?_) | refine tt_ishl (q := 12) hc dX9_canName_11 rfl ?_
        first | (with_reducible refine chk2 ?_; refine tt_icgeN (t := 71) (q := 15) hc (by omega) (by omega) dX9_canName_12 rfl rfl (fun c_12 => ?_) (fun c_12 => ?_)) | refine tt_icge (t := 71) (q := 15) hc dX9_canName_12 rfl rfl (fun c_12 => ?_) (fun c_12 => ?_)
        · omega
        · refine tt_il5 (q := 17) hc dX9_canName_15 rfl ?_
          refine tt_il1 (q := 18) hc dX9_canName_17 rfl ?_
          refine tt_cS2 (q := 21) (d' := 0) hc (by first | decide | omega) kmX9_areNamed ml_X9_228 (Nat.le_of_ble_eq_true rfl) dX9_canName_18 rfl ?_
          refine c_X9_areNamed (by omega) hp ?_
          dsimp only [Option.toList, List.nil_append, List.cons_append]
          first | (with_reducible refine chkb ?_; refine tt_ifeqB (t := 39) (q := 24) hc dX9_canName_21 rfl rfl (fun c_21 => ?_) (fun c_21 => ?_)) | (with_reducible refine chk1 ?_; refine tt_ifeqN (t := 39) (q := 24) hc (by omega) dX9_canName_21 rfl rfl (fun c_21 => ?_) (fun c_21 => ?_)) | refine tt_ifeq (t := 39) (q := 24) hc dX9_canName_21 rfl rfl (fun c_21 => ?_) (fun c_21 => ?_)
          · refine tt_iconst (v := nI 0) (q := 40) hc rfl dX9_canName_39 rfl ?_
            refine tt_is6 (q := 42) hc dX9_canName_40 rfl (by decide) ?_
            refine tt_il6 (q := 44) hc dX9_canName_42 rfl ?_
            first | (with_reducible refine chkb ?_; refine tt_ifeqB (t := 65) (q := 47) hc dX9_canName_44 rfl rfl (fun c_44 => ?_) (fun c_44 => ?_)) | (with_reducible refine chk1 ?_; refine tt_ifeqN (t := 65) (q := 47) hc (by omega) dX9_canName_44 rfl rfl (fun c_44 => ?_) (fun c_44 => ?_)) | refine tt_ifeq (t := 65) (q := 47) hc dX9_canName_44 rfl rfl (fun c_44 => ?_) (fun c_44 => ?_)
            · first | refine tt_inc5 (q := 68) hc dX9_canName_65 rfl (by decide) (incN _) ?_ | refine tt_inc5 (q := 68) hc dX9_canName_65 rfl (by decide) rfl ?_
              refine tt_goto (t := 3) hc dX9_canName_68 rfl ?_
              first
              | exact absurd c_44 (by decide)
              | exact (E (by rw [c_21]; rfl)).1
              | exact (E (by rw [c_32, Bool.not_true, Bool.and_false]; rfl)).1
              | exact (E (by rw [show (B1 s == B2 (rnm q p s)) = true from beq_iff_eq.mpr (bI_inj.mp c_60), Bool.or_true])).2
            · refine tt_al3 (q := 48) hc dX9_canName_47 rfl ?_
              refine tt_il5 (q := 50) hc dX9_canName_48 rfl ?_
              refine tt_zald (q := 51) hc (by first | assumption | exact ⟨by decide, rfl, by decide⟩) (by omega) dX9_canName_50 rfl ?_
              rw [hB1 s (by omega)]
              refine tt_al4 (q := 53) hc dX9_canName_51 rfl ?_
              refine tt_al0 (q := 54) hc dX9_canName_53 rfl ?_
              refine tt_il5 (q := 56) hc dX9_canName_54 rfl ?_
              refine tt_cV1 (q := 59) (d' := 0) (ci := 9) hc (by first | decide | omega) kmX9_named ml_X9_231 (by first | assumption | exact ⟨by decide, _, rfl⟩) rfl (Nat.le_of_ble_eq_true rfl) dX9_canName_56 rfl ?_
              refine c_X9_named (q := q) (by omega) hqn ?_
              rw [htr]
              dsimp only [Option.toList, List.nil_append, List.cons_append]
              refine tt_zald (q := 60) hc (by first | assumption | exact ⟨by decide, rfl, by decide⟩) (by omega) dX9_canName_59 rfl ?_
              rw [hB2 _ hrl]
              first | (with_reducible refine chk2 ?_; refine tt_iceqN (t := 65) (q := 63) hc (by omega) (by omega) dX9_canName_60 rfl rfl (fun c_60 => ?_) (fun c_60 => ?_)) | refine tt_iceq (t := 65) (q := 63) hc dX9_canName_60 rfl rfl (fun c_60 => ?_) (fun c_60 => ?_)
              · first | refine tt_inc5 (q := 68) hc dX9_canName_65 rfl (by decide) (incN _) ?_ | refine tt_inc5 (q := 68) hc dX9_canName_65 rfl (by decide) rfl ?_
                refine tt_goto (t := 3) hc dX9_canName_68 rfl ?_
                first
                | exact absurd c_44 (by decide)
                | exact (E (by rw [c_21]; rfl)).1
                | exact (E (by rw [c_32, Bool.not_true, Bool.and_false]; rfl)).1
                | exact (E (by rw [show (B1 s == B2 (rnm q p s)) = true from beq_iff_eq.mpr (bI_inj.mp c_60), Bool.or_true])).2
              · refine tt_iconst (v := nI 0) (q := 64) hc rfl dX9_canName_63 rfl ?_
                refine tt_retz hX rfl (by first | decide | exact bI_01 _) dX9_canName_64 ?_
                first
                | exact absurd c_44 (by decide)
                | (refine hF ?_
                   rw [c_21, c_32]
                   have z : (B1 s == B2 (rnm q p s)) = false := beq_eq_false_iff_ne.mpr (fun z => c_60 (bI_inj.mpr z))
                   rw [z]
                   rfl)
          · refine tt_il5 (q := 26) hc dX9_canName_24 rfl ?_
            refine tt_il1 (q := 27) hc dX9_canName_26 rfl ?_
            refine tt_iconst (v := nI 1) (q := 28) hc rfl dX9_canName_27 rfl ?_
            first | (with_reducible refine chk2 ?_; refine tt_isubN (q := 29) hc (by omega) dX9_canName_28 rfl ?_) | refine tt_isub (q := 29) hc dX9_canName_28 rfl ?_
            refine tt_cS2 (q := 32) (d' := 0) hc (by first | decide | omega) kmX9_areNamed ml_X9_228 (Nat.le_of_ble_eq_true rfl) dX9_canName_29 rfl ?_
            refine c_X9_areNamed (by omega) (by omega) ?_
            dsimp only [Option.toList, List.nil_append, List.cons_append]
            first | (with_reducible refine chkb ?_; refine tt_ifneB (t := 39) (q := 35) hc dX9_canName_32 rfl rfl (fun c_32 => ?_) (fun c_32 => ?_)) | (with_reducible refine chk1 ?_; refine tt_ifneN (t := 39) (q := 35) hc (by omega) dX9_canName_32 rfl rfl (fun c_32 => ?_) (fun c_32 => ?_)) | refine tt_ifne (t := 39) (q := 35) hc dX9_canName_32 rfl rfl (fun c_32 => ?_) (fun c_32 => ?_)
            · refine tt_iconst (v := nI 0) (q := 40) hc rfl dX9_canName_39 rfl ?_
              refine tt_is6 (q := 42) hc dX9_canName_40 rfl (by decide) ?_
              refine tt_il6 (q := 44) hc dX9_canName_42 rfl ?_
              first | (with_reducible refine chkb ?_; refine tt_ifeqB (t := 65) (q := 47) hc dX9_canName_44 rfl rfl (fun c_44 => ?_) (fun c_44 => ?_)) | (with_reducible refine chk1 ?_; refine tt_ifeqN (t := 65) (q := 47) hc (by omega) dX9_canName_44 rfl rfl (fun c_44 => ?_) (fun c_44 => ?_)) | refine tt_ifeq (t := 65) (q := 47) hc dX9_canName_44 rfl rfl (fun c_44 => ?_) (fun c_44 => ?_)
              · first | refine tt_inc5 (q := 68) hc dX9_canName_65 rfl (by decide) (incN _) ?_ | refine tt_inc5 (q := 68) hc dX9_canName_65 rfl (by decide) rfl ?_
                refine tt_goto (t := 3) hc dX9_canName_68 rfl ?_
                first
                | exact absurd c_44 (by decide)
                | exact (E (by rw [c_21]; rfl)).1
                | exact (E (by rw [c_32, Bool.not_true, Bool.and_false]; rfl)).1
                | exact (E (by rw [show (B1 s == B2 (rnm q p s)) = true from beq_iff_eq.mpr (bI_inj.mp c_60), Bool.or_true])).2
              · refine tt_al3 (q := 48) hc dX9_canName_47 rfl ?_
                refine tt_il5 (q := 50) hc dX9_canName_48 rfl ?_
                refine tt_zald (q := 51) hc (by first | assumption | exact ⟨by decide, rfl, by decide⟩) (by omega) dX9_canName_50 rfl ?_
                rw [hB1 s (by omega)]
                refine tt_al4 (q := 53) hc dX9_canName_51 rfl ?_
                refine tt_al0 (q := 54) hc dX9_canName_53 rfl ?_
                refine tt_il5 (q := 56) hc dX9_canName_54 rfl ?_
                refine tt_cV1 (q := 59) (d' := 0) (ci := 9) hc (by first | decide | omega) kmX9_named ml_X9_231 (by first | assumption | exact ⟨by decide, _, rfl⟩) rfl (Nat.le_of_ble_eq_true rfl) dX9_canName_56 rfl ?_
                refine c_X9_named (q := q) (by omega) hqn ?_
                rw [htr]
                dsimp only [Option.toList, List.nil_append, List.cons_append]
                refine tt_zald (q := 60) hc (by first | assumption | exact ⟨by decide, rfl, by decide⟩) (by omega) dX9_canName_59 rfl ?_
                rw [hB2 _ hrl]
                first | (with_reducible refine chk2 ?_; refine tt_iceqN (t := 65) (q := 63) hc (by omega) (by omega) dX9_canName_60 rfl rfl (fun c_60 => ?_) (fun c_60 => ?_)) | refine tt_iceq (t := 65) (q := 63) hc dX9_canName_60 rfl rfl (fun c_60 => ?_) (fun c_60 => ?_)
                · first | refine tt_inc5 (q := 68) hc dX9_canName_65 rfl (by decide) (incN _) ?_ | refine tt_inc5 (q := 68) hc dX9_canName_65 rfl (by decide) rfl ?_
                  refine tt_goto (t := 3) hc dX9_canName_68 rfl ?_
                  first
                  | exact absurd c_44 (by decide)
                  | exact (E (by rw [c_21]; rfl)).1
                  | exact (E (by rw [c_32, Bool.not_true, Bool.and_false]; rfl)).1
                  | exact (E (by rw [show (B1 s == B2 (rnm q p s)) = true from beq_iff_eq.mpr (bI_inj.mp c_60), Bool.or_true])).2
                · refine tt_iconst (v := nI 0) (q := 64) hc rfl dX9_canName_63 rfl ?_
                  refine tt_retz hX rfl (by first | decide | exact bI_01 _) dX9_canName_64 ?_
                  first
                  | exact absurd c_44 (by decide)
                  | (refine hF ?_
                     rw [c_21, c_32]
                     have z : (B1 s == B2 (rnm q p s)) = false := beq_eq_false_iff_ne.mpr (fun z => c_60 (bI_inj.mpr z))
                     rw [z]
                     rfl)
            · refine tt_iconst (v := nI 1) (q := 36) hc rfl dX9_canName_35 rfl ?_
              refine tt_goto (t := 40) hc dX9_canName_36 rfl ?_
              refine tt_is6 (q := 42) hc dX9_canName_40 rfl (by decide) ?_
              refine tt_il6 (q := 44) hc dX9_canName_42 rfl ?_
              first | (with_reducible refine chkb ?_; refine tt_ifeqB (t := 65) (q := 47) hc dX9_canName_44 rfl rfl (fun c_44 => ?_) (fun c_44 => ?_)) | (with_reducible refine chk1 ?_; refine tt_ifeqN (t := 65) (q := 47) hc (by omega) dX9_canName_44 rfl rfl (fun c_44 => ?_) (fun c_44 => ?_)) | refine tt_ifeq (t := 65) (q := 47) hc dX9_canName_44 rfl rfl (fun c_44 => ?_) (fun c_44 => ?_)
              · first | refine tt_inc5 (q := 68) hc dX9_canName_65 rfl (by decide) (incN _) ?_ | refine tt_inc5 (q := 68) hc dX9_canName_65 rfl (by decide) rfl ?_
                refine tt_goto (t := 3) hc dX9_canName_68 rfl ?_
                first
                | exact absurd c_44 (by decide)
                | exact (E (by rw [c_21]; rfl)).1
                | exact (E (by rw [c_32, Bool.not_true, Bool.and_false]; rfl)).1
                | exact (E (by rw [show (B1 s == B2 (rnm q p s)) = true from beq_iff_eq.mpr (bI_inj.mp c_60), Bool.or_true])).2
              · refine tt_al3 (q := 48) hc dX9_canName_47 rfl ?_
                refine tt_il5 (q := 50) hc dX9_canName_48 rfl ?_
                refine tt_zald (q := 51) hc (by first | assumption | exact ⟨by decide, rfl, by decide⟩) (by omega) dX9_canName_50 rfl ?_
                rw [hB1 s (by omega)]
                refine tt_al4 (q := 53) hc dX9_canName_51 rfl ?_
                refine tt_al0 (q := 54) hc dX9_canName_53 rfl ?_
                refine tt_il5 (q := 56) hc dX9_canName_54 rfl ?_
                refine tt_cV1 (q := 59) (d' := 0) (ci := 9) hc (by first | decide | omega) kmX9_named ml_X9_231 (by first | assumption | exact ⟨by decide, _, rfl⟩) rfl (Nat.le_of_ble_eq_true rfl) dX9_canName_56 rfl ?_
                refine c_X9_named (q := q) (by omega) hqn ?_
                rw [htr]
                dsimp only [Option.toList, List.nil_append, List.cons_append]
                refine tt_zald (q := 60) hc (by first | assumption | exact ⟨by decide, rfl, by decide⟩) (by omega) dX9_canName_59 rfl ?_
                rw [hB2 _ hrl]
                first | (with_reducible refine chk2 ?_; refine tt_iceqN (t := 65) (q := 63) hc (by omega) (by omega) dX9_canName_60 rfl rfl (fun c_60 => ?_) (fun c_60 => ?_)) | refine tt_iceq (t := 65) (q := 63) hc dX9_canName_60 rfl rfl (fun c_60 => ?_) (fun c_60 => ?_)
                · first | refine tt_inc5 (q := 68) hc dX9_canName_65 rfl (by decide) (incN _) ?_ | refine tt_inc5 (q := 68) hc dX9_canName_65 rfl (by decide) rfl ?_
                  refine tt_goto (t := 3) hc dX9_canName_68 rfl ?_
                  first
                  | exact absurd c_44 (by decide)
                  | exact (E (by rw [c_21]; rfl)).1
                  | exact (E (by rw [c_32, Bool.not_true, Bool.and_false]; rfl)).1
                  | exact (E (by rw [show (B1 s == B2 (rnm q p s)) = true from beq_iff_eq.mpr (bI_inj.mp c_60), Bool.or_true])).2
                · refine tt_iconst (v := nI 0) (q := 64) hc rfl dX9_canName_63 rfl ?_
                  refine tt_retz hX rfl (by first | decide | exact bI_01 _) dX9_canName_64 ?_
                  first
                  | exact absurd c_44 (by decide)
                  | (refine hF ?_
                     rw [c_21, c_32]
                     have z : (B1 s == B2 (rnm q p s)) = false := beq_eq_false_iff_ne.mpr (fun z => c_60 (bI_inj.mpr z))
                     rw [z]
                     rfl)
  by_cases c : p = 0
  · subst c
    refine tt_il1 (q := 4) hc dX9_canName_3 rfl ?_
    first | (with_reducible refine chk1 ?_; refine tt_ifleN (t := 71) (q := 7) hc (by omega) dX9_canName_4 rfl rfl (fun c_4 => ?_) (fun c_4 => ?_)) | refine tt_ifle (t := 71) (q := 7) hc dX9_canName_4 rfl rfl (fun c_4 => ?_) (fun c_4 => ?_)
    · exact hT rfl _ _
    · omega
  · unfold nwOK at hT hF
    rw [if_neg c] at hT hF
    exact L (by omega) (2 ^ p - 1) 1 w6 (by omega) (by decide) hT hF
set_option maxHeartbeats 2000000 in
theorem c_X9_canName {l : Launch} {g1 g2 : Nat} (hA1 : HA g1 1 256) (hA2 : HA g2 1 256) (hg1 : g1 ≠ 37) (hg2 : g2 ≠ 37) {B1 B2 : HP} : ∀ (n p : Nat) (q : Nat → Nat) (used : Nat) (μ : Mem) (Q : Option Value → Mem → Prop), p + n = 8 → (∀ i, i < p → q i < 8) → used < 256 → BA μ g1 B1 → BA μ g2 B2 → (∀ i, i < p → μ 37 i = nI (q i)) → (∀ μ', frm [37] μ μ' → (∀ i, i < p → μ' 37 i = μ 37 i) → Q (some (.int (bI (cnm B1 B2 n p q used)))) μ') → CC l (n + 1) mX9_canName [.ref 24, .int (nI p), .int (nI used), .ref g1, .ref g2] μ Q := by
  intro n
  induction n with
  | zero =>
    intro p q used μ Q hp hq hu hB1 hB2 h37 hQ
    have h := hQ μ frm.rf (fun _ _ => rfl)
    refine CC.of (M := mX9_canName) (by decide +kernel) rfl (fun v h => by simp at h; rcases h with rfl | rfl | rfl | rfl | rfl <;> rfl) (Nat.le_of_ble_eq_true rfl) (fun X hX => ?_)
    have hc := hX.cx
    rw [cnm] at h
    refine tt_iconst (v := nI 1) (q := 1) hc rfl dX9_canName_0 rfl ?_
    refine tt_is5 (q := 3) hc dX9_canName_1 rfl (by decide) ?_
    refine cn_chk (d := 0) hX hA1 hA2 (by omega) hq hB1 hB2 h37 (fun e w5 w6 => ?_) (fun e => by rw [e] at h; exact h) _
    have hp : p = 8 := by omega
    subst hp
    rw [e] at h
    refine tt_il1 (q := 72) hc dX9_canName_71 rfl ?_
    refine tt_bipush (v := nI 8) (q := 74) hc (by decide) dX9_canName_72 rfl ?_
    refine tt_icneN (t := 79) (q := 77) hc (by omega) (by omega) dX9_canName_74 rfl rfl (fun c => absurd rfl c) (fun c => ?_)
    refine tt_iconst (v := nI 1) (q := 78) hc rfl dX9_canName_77 rfl ?_
    refine tt_retz hX rfl (by decide) dX9_canName_78 ?_
    exact h
  | succ n ihn =>
    intro p q used μ Q hp hq hu hB1 hB2 h37 hQ
    refine CC.of (M := mX9_canName) (by decide +kernel) rfl (fun v h => by simp at h; rcases h with rfl | rfl | rfl | rfl | rfl <;> rfl) (Nat.le_of_ble_eq_true rfl) (fun X hX => ?_)
    have hc := hX.cx
    have a37 := HA37
    rw [cnm] at hQ
    have L : ∀ (m v : Nat) (ν : Mem) (w6 : Value), v + m = 8 → frm [37] μ ν → (∀ i, i < p → ν 37 i = μ 37 i) → (∀ μ', frm [37] μ μ' → (∀ i, i < p → μ' 37 i = μ 37 i) → Q (some (.int (bI (cnv (cnm B1 B2 n (p + 1)) p q used m v)))) μ') → TT X 82 [.ref 24, .int (nI p), .int (nI used), .ref g1, .ref g2, .int (nI v), w6] [] ν := by
      intro m
      induction m with
      | zero =>
        intro v ν w6 hv hf hk h
        refine tt_il5 (q := 84) hc dX9_canName_82 rfl ?_
        refine tt_bipush (v := nI 8) (q := 86) hc (by decide) dX9_canName_84 rfl ?_
        first | (with_reducible refine chk2 ?_; refine tt_icgeN (t := 137) (q := 89) hc (by omega) (by omega) dX9_canName_86 rfl rfl (fun c_86 => ?_) (fun c_86 => ?_)) | refine tt_icge (t := 137) (q := 89) hc dX9_canName_86 rfl rfl (fun c_86 => ?_) (fun c_86 => ?_)
        · refine tt_iconst (v := nI 0) (q := 138) hc rfl dX9_canName_137 rfl ?_
          refine tt_retz hX rfl (by first | decide | exact bI_01 _) dX9_canName_138 ?_
          exact h ν hf hk
        · omega
      | succ m ih =>
        intro v ν w6 hv hf hk h
        have h1 : used / 2 ^ v &&& 1 ≤ 1 := Nat.and_le_right
        have hor := or_lt hu (p2_lt (show v < 8 by omega))
        rw [cnv] at h
        generalize hr : cnm B1 B2 n (p + 1) (qset q p v) (used ||| 2 ^ v) = r at h
        refine tt_il5 (q := 84) hc dX9_canName_82 rfl ?_
        refine tt_bipush (v := nI 8) (q := 86) hc (by decide) dX9_canName_84 rfl ?_
        first | (with_reducible refine chk2 ?_; refine tt_icgeN (t := 137) (q := 89) hc (by omega) (by omega) dX9_canName_86 rfl rfl (fun c_86 => ?_) (fun c_86 => ?_)) | refine tt_icge (t := 137) (q := 89) hc dX9_canName_86 rfl rfl (fun c_86 => ?_) (fun c_86 => ?_)
        · omega
        · refine tt_il2 (q := 90) hc dX9_canName_89 rfl ?_
          refine tt_il5 (q := 92) hc dX9_canName_90 rfl ?_
          first | (with_reducible refine chk2 ?_; refine tt_ishrN (q := 93) hc (by omega) (by omega) dX9_canName_92 rfl ?_) | refine tt_ishr (q := 93) hc dX9_canName_92 rfl ?_
          refine tt_iconst (v := nI 1) (q := 94) hc rfl dX9_canName_93 rfl ?_
          first | (with_reducible refine chk2 ?_; refine tt_iandN (q := 95) hc dX9_canName_94 rfl ?_) | (with_reducible refine chkan ?_; refine tt_iandnN (q := 95) hc dX9_canName_94 rfl ?_) | (with_reducible refine chkna ?_; refine tt_inandN (q := 95) hc dX9_canName_94 rfl ?_) | refine tt_iand (q := 95) hc dX9_canName_94 rfl ?_
          refine tt_iconst (v := nI 1) (q := 96) hc rfl dX9_canName_95 rfl ?_
          first | (with_reducible refine chk2 ?_; refine tt_icneN (t := 102) (q := 99) hc (by omega) (by omega) dX9_canName_96 rfl rfl (fun c_96 => ?_) (fun c_96 => ?_)) | refine tt_icne (t := 102) (q := 99) hc dX9_canName_96 rfl rfl (fun c_96 => ?_) (fun c_96 => ?_)
          · refine tt_al0 (q := 103) hc dX9_canName_102 rfl ?_
            refine tt_getR (q := 106) hc fl_X9_60 (by first | assumption | exact ⟨by decide, _, rfl, rfl⟩) dX9_canName_103 rfl ?_
            refine tt_il1 (q := 107) hc dX9_canName_106 rfl ?_
            refine tt_il5 (q := 109) hc dX9_canName_107 rfl ?_
            refine tt_iast (q := 110) hc (by first | assumption | exact ⟨by decide, rfl, by decide⟩) (by omega) dX9_canName_109 rfl ?_
            refine tt_al0 (q := 111) hc dX9_canName_110 rfl ?_
            refine tt_il1 (q := 112) hc dX9_canName_111 rfl ?_
            refine tt_iconst (v := nI 1) (q := 113) hc rfl dX9_canName_112 rfl ?_
            first | (with_reducible refine chk2 ?_; refine tt_iaddN (q := 114) hc dX9_canName_113 rfl ?_) | refine tt_iadd (q := 114) hc dX9_canName_113 rfl ?_
            refine tt_il2 (q := 115) hc dX9_canName_114 rfl ?_
            refine tt_iconst (v := nI 1) (q := 116) hc rfl dX9_canName_115 rfl ?_
            refine tt_il5 (q := 118) hc dX9_canName_116 rfl ?_
            first | (with_reducible refine chks ?_; refine tt_ishl1 (q := 119) hc (by omega) dX9_canName_118 rfl ?_) | (with_reducible refine chk2 ?_; refine tt_ishlN (q := 119) hc (by omega) (by omega) dX9_canName_118 rfl ?_) | refine tt_ishl (q := 119) hc dX9_canName_118 rfl ?_
            first | (with_reducible refine chk2 ?_; refine tt_iorN (q := 120) hc dX9_canName_119 rfl ?_) | refine tt_ior (q := 120) hc dX9_canName_119 rfl ?_
            refine tt_al3 (q := 121) hc dX9_canName_120 rfl ?_
            refine tt_al4 (q := 123) hc dX9_canName_121 rfl ?_
            refine tt_cV4 (q := 126) (d' := n + 1) (ci := 9) hc (by first | decide | omega) kmX9_canName ml_X9_234 (by first | assumption | exact ⟨by decide, _, rfl⟩) rfl (Nat.le_of_ble_eq_true rfl) dX9_canName_123 rfl ?_
            have hfa : frm [37] μ (mset ν 37 (upd (ν 37) p (nI v))) := hf.tr frm.set
            refine ihn (p + 1) (qset q p v) (used ||| 2 ^ v) _ _ (by omega) (fun i hi => ?_) hor (fun s hs => by rw [hfa g1 (by simpa using hg1)]; exact hB1 s hs) (fun s hs => by rw [hfa g2 (by simpa using hg2)]; exact hB2 s hs) (fun i hi => ?_) (fun ν2 hf2 hk2 => ?_)
            · unfold qset
              split
              · omega
              · exact hq i (by omega)
            · rw [mset_eq]
              unfold qset
              by_cases e : i = p
              · rw [e, pk_us, if_pos rfl]
              · rw [pk_un e, if_neg e, hk i (by omega)]
                exact h37 i (by omega)
            have hfb : frm [37] μ ν2 := hfa.tr hf2
            have hkb : ∀ i, i < p → ν2 37 i = μ 37 i := fun i hi => by rw [hk2 i (by omega), mset_eq, pk_un (by omega)]; exact hk i hi
            rw [hr]
            dsimp only [Option.toList, List.nil_append, List.cons_append]
            first | (with_reducible refine chkb ?_; refine tt_ifeqB (t := 131) (q := 129) hc dX9_canName_126 rfl rfl (fun c_126 => ?_) (fun c_126 => ?_)) | (with_reducible refine chk1 ?_; refine tt_ifeqN (t := 131) (q := 129) hc (by omega) dX9_canName_126 rfl rfl (fun c_126 => ?_) (fun c_126 => ?_)) | refine tt_ifeq (t := 131) (q := 129) hc dX9_canName_126 rfl rfl (fun c_126 => ?_) (fun c_126 => ?_)
            · first | refine tt_inc5 (q := 134) hc dX9_canName_131 rfl (by decide) (incN _) ?_ | refine tt_inc5 (q := 134) hc dX9_canName_131 rfl (by decide) rfl ?_
              refine tt_goto (t := 82) hc dX9_canName_134 rfl ?_
              first
              | (have z : (used / 2 ^ v) &&& 1 = 1 := c_96
                 rw [decide_eq_false (show ¬ used / 2 ^ v &&& 1 = 0 by omega), Bool.false_and, Bool.false_or] at h
                 exact ih (v + 1) ν _ (by omega) hf hk h)
              | (rw [c_126, Bool.and_false, Bool.false_or] at h
                 exact ih (v + 1) ν2 _ (by omega) hfb hkb h)
            · refine tt_iconst (v := nI 1) (q := 130) hc rfl dX9_canName_129 rfl ?_
              refine tt_retz hX rfl (by first | decide | exact bI_01 _) dX9_canName_130 ?_
              have z : ¬ (used / 2 ^ v) &&& 1 = 1 := c_96
              have h := h ν2 hfb hkb
              rw [decide_eq_true (show used / 2 ^ v &&& 1 = 0 by omega), c_126] at h
              exact h
          · refine tt_goto (t := 131) hc dX9_canName_99 rfl ?_
            first | refine tt_inc5 (q := 134) hc dX9_canName_131 rfl (by decide) (incN _) ?_ | refine tt_inc5 (q := 134) hc dX9_canName_131 rfl (by decide) rfl ?_
            refine tt_goto (t := 82) hc dX9_canName_134 rfl ?_
            first
            | (have z : (used / 2 ^ v) &&& 1 = 1 := c_96
               rw [decide_eq_false (show ¬ used / 2 ^ v &&& 1 = 0 by omega), Bool.false_and, Bool.false_or] at h
               exact ih (v + 1) ν _ (by omega) hf hk h)
            | (rw [c_126, Bool.and_false, Bool.false_or] at h
               exact ih (v + 1) ν2 _ (by omega) hfb hkb h)
    refine tt_iconst (v := nI 1) (q := 1) hc rfl dX9_canName_0 rfl ?_
    refine tt_is5 (q := 3) hc dX9_canName_1 rfl (by decide) ?_
    refine cn_chk (d := n + 1) hX hA1 hA2 (by omega) hq hB1 hB2 h37 (fun e w5 w6 => ?_) (fun e => by have h := hQ μ frm.rf (fun _ _ => rfl); rw [e] at h; exact h) _
    refine tt_il1 (q := 72) hc dX9_canName_71 rfl ?_
    refine tt_bipush (v := nI 8) (q := 74) hc (by decide) dX9_canName_72 rfl ?_
    refine tt_icneN (t := 79) (q := 77) hc (by omega) (by omega) dX9_canName_74 rfl rfl (fun c => ?_) (fun c => absurd c (by omega))
    refine tt_iconst (v := nI 0) (q := 80) hc rfl dX9_canName_79 rfl ?_
    refine tt_is5 (q := 82) hc dX9_canName_80 rfl (by decide) ?_
    rw [e, Bool.true_and] at hQ
    exact L 8 0 μ _ rfl frm.rf (fun _ _ => rfl) hQ
set_option maxHeartbeats 2000000 in
theorem c_X9_alike {l : Launch} {v w : Int32} {S : ST} {μ : Mem} {Q : Option Value → Mem → Prop} (hM : MR μ S) (hQ : ∀ μ', frm mL μ μ' → MR μ' S → Q (some (.int (an_alike v w S))) μ') : CC l 10 mX9_alike [.ref 24, .int v, .int w] μ Q := by
  refine CC.of (M := mX9_alike) (by decide +kernel) rfl (fun v h => by simp at h; rcases h with rfl | rfl | rfl <;> rfl) (Nat.le_of_ble_eq_true rfl) (fun X hX => ?_)
  have hc := hX.cx
  obtain ⟨K, B, hs, ks, im, ls, tx, pp⟩ := S
  have a4 := hM.2.2.1
  have q34 := HQ34
  have a35 := HA35
  dsimp only [an_alike] at hQ
  rcases kpt_iff (v := v) a4.1 with ⟨i, q, hi4, hv, hk, hq, hin⟩ | ⟨hk, hin⟩
  · rcases kpt_iff (v := w) a4.1 with ⟨j, r, hj4, hw, hk2, hr, hin2⟩ | ⟨hk2, hin2⟩
    · rw [two_s hk hk2 hq hr] at hQ
      obtain ⟨g1, g2, g3⟩ := a4.2.2.1 i q hq
      obtain ⟨k1, k2, k3⟩ := a4.2.2.1 j r hr
      have ai := HAk hi4
      have aj := HAk hj4
      have t1 := tot_le g3
      have t2 := tot_le k3
      have K1 := g3.1
      have K2 := k3.1
      subst hv
      subst hw
      refine tt_al0 (q := 1) hc dX9_alike_0 rfl ?_
      refine tt_il1 (q := 2) hc dX9_alike_1 rfl ?_
      refine tt_cV1 (q := 5) (d' := 1) (ci := 9) hc (by first | decide | omega) kmX9_isKept ml_X9_217 (by first | assumption | exact ⟨by decide, _, rfl⟩) rfl (Nat.le_of_ble_eq_true rfl) dX9_alike_2 rfl ?_
      refine c_X9_isKept a4 ?_
      rw [hin]
      dsimp only [Option.toList, List.nil_append, List.cons_append]
      first | (with_reducible refine chkb ?_; refine tt_ifeqB (t := 16) (q := 8) hc dX9_alike_5 rfl rfl (fun c_5 => ?_) (fun c_5 => ?_)) | (with_reducible refine chk1 ?_; refine tt_ifeqN (t := 16) (q := 8) hc (by omega) dX9_alike_5 rfl rfl (fun c_5 => ?_) (fun c_5 => ?_)) | refine tt_ifeq (t := 16) (q := 8) hc dX9_alike_5 rfl rfl (fun c_5 => ?_) (fun c_5 => ?_)
      · exact absurd c_5 (by decide)
      · refine tt_al0 (q := 9) hc dX9_alike_8 rfl ?_
        refine tt_il2 (q := 10) hc dX9_alike_9 rfl ?_
        refine tt_cV1 (q := 13) (d' := 1) (ci := 9) hc (by first | decide | omega) kmX9_isKept ml_X9_217 (by first | assumption | exact ⟨by decide, _, rfl⟩) rfl (Nat.le_of_ble_eq_true rfl) dX9_alike_10 rfl ?_
        refine c_X9_isKept a4 ?_
        rw [hin2]
        dsimp only [Option.toList, List.nil_append, List.cons_append]
        first | (with_reducible refine chkb ?_; refine tt_ifneB (t := 18) (q := 16) hc dX9_alike_13 rfl rfl (fun c_13 => ?_) (fun c_13 => ?_)) | (with_reducible refine chk1 ?_; refine tt_ifneN (t := 18) (q := 16) hc (by omega) dX9_alike_13 rfl rfl (fun c_13 => ?_) (fun c_13 => ?_)) | refine tt_ifne (t := 18) (q := 16) hc dX9_alike_13 rfl rfl (fun c_13 => ?_) (fun c_13 => ?_)
        · refine tt_al0 (q := 19) hc dX9_alike_18 rfl ?_
          refine tt_getR (q := 22) hc fl_X9_54 (by first | assumption | exact ⟨by decide, _, rfl, rfl⟩) dX9_alike_19 rfl ?_
          refine tt_il1 (q := 23) hc dX9_alike_22 rfl ?_
          refine tt_iald (q := 24) hc (by first | assumption | exact ⟨by decide, rfl, by decide⟩) (by omega) dX9_alike_23 rfl ?_
          rw [g2]
          refine tt_al0 (q := 25) hc dX9_alike_24 rfl ?_
          refine tt_getR (q := 28) hc fl_X9_54 (by first | assumption | exact ⟨by decide, _, rfl, rfl⟩) dX9_alike_25 rfl ?_
          refine tt_il2 (q := 29) hc dX9_alike_28 rfl ?_
          refine tt_iald (q := 30) hc (by first | assumption | exact ⟨by decide, rfl, by decide⟩) (by omega) dX9_alike_29 rfl ?_
          rw [k2]
          first | (with_reducible refine chk2 ?_; refine tt_icneN (t := 54) (q := 33) hc (by omega) (by omega) dX9_alike_30 rfl rfl (fun c_30 => ?_) (fun c_30 => ?_)) | refine tt_icne (t := 54) (q := 33) hc dX9_alike_30 rfl rfl (fun c_30 => ?_) (fun c_30 => ?_)
          · refine tt_iconst (v := nI 0) (q := 55) hc rfl dX9_alike_54 rfl ?_
            refine tt_reti hX rfl dX9_alike_55 ?_
            have h := hQ μ frm.rf hM
            unfold alk at h
            first
              | (rw [decide_eq_false c_30] at h; exact h)
              | (rw [decide_eq_false c_51, Bool.and_false] at h; exact h)
          · refine tt_al0 (q := 34) hc dX9_alike_33 rfl ?_
            refine tt_getR (q := 37) hc fl_X9_51 (by first | assumption | exact ⟨by decide, _, rfl, rfl⟩) dX9_alike_34 rfl ?_
            refine tt_il1 (q := 38) hc dX9_alike_37 rfl ?_
            refine tt_aald (q := 39) hc (r := _) (by first | assumption | exact ⟨by decide, rfl, by decide⟩) (by decide) (by omega) dX9_alike_38 rfl ?_
            refine tt_cS1 (q := 42) (d' := 0) hc (by first | decide | omega) kmX9_bodiesOf ml_X9_140 (Nat.le_of_ble_eq_true rfl) dX9_alike_39 rfl ?_
            refine c_X9_bodiesOf ai g3 g1 ?_
            dsimp only [Option.toList, List.nil_append, List.cons_append]
            refine tt_al0 (q := 43) hc dX9_alike_42 rfl ?_
            refine tt_getR (q := 46) hc fl_X9_51 (by first | assumption | exact ⟨by decide, _, rfl, rfl⟩) dX9_alike_43 rfl ?_
            refine tt_il2 (q := 47) hc dX9_alike_46 rfl ?_
            refine tt_aald (q := 48) hc (r := _) (by first | assumption | exact ⟨by decide, rfl, by decide⟩) (by decide) (by omega) dX9_alike_47 rfl ?_
            refine tt_cS1 (q := 51) (d' := 0) hc (by first | decide | omega) kmX9_bodiesOf ml_X9_140 (Nat.le_of_ble_eq_true rfl) dX9_alike_48 rfl ?_
            refine c_X9_bodiesOf aj k3 k1 ?_
            dsimp only [Option.toList, List.nil_append, List.cons_append]
            first | (with_reducible refine chk2 ?_; refine tt_iceqN (t := 56) (q := 54) hc (by omega) (by omega) dX9_alike_51 rfl rfl (fun c_51 => ?_) (fun c_51 => ?_)) | refine tt_iceq (t := 56) (q := 54) hc dX9_alike_51 rfl rfl (fun c_51 => ?_) (fun c_51 => ?_)
            · refine tt_al0 (q := 57) hc dX9_alike_56 rfl ?_
              refine tt_iconst (v := nI 0) (q := 58) hc rfl dX9_alike_57 rfl ?_
              refine tt_iconst (v := nI 0) (q := 59) hc rfl dX9_alike_58 rfl ?_
              refine tt_al0 (q := 60) hc dX9_alike_59 rfl ?_
              refine tt_getR (q := 63) hc fl_X9_51 (by first | assumption | exact ⟨by decide, _, rfl, rfl⟩) dX9_alike_60 rfl ?_
              refine tt_il1 (q := 64) hc dX9_alike_63 rfl ?_
              refine tt_aald (q := 65) hc (r := _) (by first | assumption | exact ⟨by decide, rfl, by decide⟩) (by decide) (by omega) dX9_alike_64 rfl ?_
              refine tt_al0 (q := 66) hc dX9_alike_65 rfl ?_
              refine tt_getR (q := 69) hc fl_X9_51 (by first | assumption | exact ⟨by decide, _, rfl, rfl⟩) dX9_alike_66 rfl ?_
              refine tt_il2 (q := 70) hc dX9_alike_69 rfl ?_
              refine tt_aald (q := 71) hc (r := _) (by first | assumption | exact ⟨by decide, rfl, by decide⟩) (by decide) (by omega) dX9_alike_70 rfl ?_
              refine tt_cV4 (q := 74) (d' := 9) (ci := 9) hc (by first | decide | omega) kmX9_canName ml_X9_234 (by first | assumption | exact ⟨by decide, _, rfl⟩) rfl (Nat.le_of_ble_eq_true rfl) dX9_alike_71 rfl ?_
              refine c_X9_canName ai aj (by omega) (by omega) 8 0 (fun _ => 0) 0 μ _ rfl (fun i hi => by omega) (by decide) g1 k1 (fun i hi => by omega) (fun ν hf _ => ?_)
              have hm : mf [37] μ ν := mf.fr hf (by decide)
              have h := hQ ν (hm.ml (by decide)) (hM.wk hm (by decide))
              unfold alk at h
              rw [decide_eq_true c_30, decide_eq_true c_51, Bool.true_and, Bool.true_and, alk_cnm g3 (by rw [c_30]; exact k3) c_51 (fun _ => 0)] at h
              dsimp only [Option.toList, List.nil_append, List.cons_append]
              first | (with_reducible refine chkb ?_; refine tt_ifeqB (t := 81) (q := 77) hc dX9_alike_74 rfl rfl (fun c_74 => ?_) (fun c_74 => ?_)) | (with_reducible refine chk1 ?_; refine tt_ifeqN (t := 81) (q := 77) hc (by omega) dX9_alike_74 rfl rfl (fun c_74 => ?_) (fun c_74 => ?_)) | refine tt_ifeq (t := 81) (q := 77) hc dX9_alike_74 rfl rfl (fun c_74 => ?_) (fun c_74 => ?_)
              · refine tt_iconst (v := nI 0) (q := 82) hc rfl dX9_alike_81 rfl ?_
                refine tt_reti hX rfl dX9_alike_82 ?_
                first
                | (rw [c_74] at h; exact h)
              · refine tt_iconst (v := nI 1) (q := 78) hc rfl dX9_alike_77 rfl ?_
                refine tt_goto (t := 82) hc dX9_alike_78 rfl ?_
                refine tt_reti hX rfl dX9_alike_82 ?_
                first
                | (rw [c_74] at h; exact h)
            · refine tt_iconst (v := nI 0) (q := 55) hc rfl dX9_alike_54 rfl ?_
              refine tt_reti hX rfl dX9_alike_55 ?_
              have h := hQ μ frm.rf hM
              unfold alk at h
              first
                | (rw [decide_eq_false c_30] at h; exact h)
                | (rw [decide_eq_false c_51, Bool.and_false] at h; exact h)
        · exact absurd c_13 (by decide)
    · rw [two_r hk2] at hQ
      refine tt_al0 (q := 1) hc dX9_alike_0 rfl ?_
      refine tt_il1 (q := 2) hc dX9_alike_1 rfl ?_
      refine tt_cV1 (q := 5) (d' := 1) (ci := 9) hc (by first | decide | omega) kmX9_isKept ml_X9_217 (by first | assumption | exact ⟨by decide, _, rfl⟩) rfl (Nat.le_of_ble_eq_true rfl) dX9_alike_2 rfl ?_
      refine c_X9_isKept a4 ?_
      rw [hin]
      dsimp only [Option.toList, List.nil_append, List.cons_append]
      first | (with_reducible refine chkb ?_; refine tt_ifeqB (t := 16) (q := 8) hc dX9_alike_5 rfl rfl (fun c_5 => ?_) (fun c_5 => ?_)) | (with_reducible refine chk1 ?_; refine tt_ifeqN (t := 16) (q := 8) hc (by omega) dX9_alike_5 rfl rfl (fun c_5 => ?_) (fun c_5 => ?_)) | refine tt_ifeq (t := 16) (q := 8) hc dX9_alike_5 rfl rfl (fun c_5 => ?_) (fun c_5 => ?_)
      · exact absurd c_5 (by decide)
      · refine tt_al0 (q := 9) hc dX9_alike_8 rfl ?_
        refine tt_il2 (q := 10) hc dX9_alike_9 rfl ?_
        refine tt_cV1 (q := 13) (d' := 1) (ci := 9) hc (by first | decide | omega) kmX9_isKept ml_X9_217 (by first | assumption | exact ⟨by decide, _, rfl⟩) rfl (Nat.le_of_ble_eq_true rfl) dX9_alike_10 rfl ?_
        refine c_X9_isKept a4 ?_
        rw [hin2]
        dsimp only [Option.toList, List.nil_append, List.cons_append]
        first | (with_reducible refine chkb ?_; refine tt_ifneB (t := 18) (q := 16) hc dX9_alike_13 rfl rfl (fun c_13 => ?_) (fun c_13 => ?_)) | (with_reducible refine chk1 ?_; refine tt_ifneN (t := 18) (q := 16) hc (by omega) dX9_alike_13 rfl rfl (fun c_13 => ?_) (fun c_13 => ?_)) | refine tt_ifne (t := 18) (q := 16) hc dX9_alike_13 rfl rfl (fun c_13 => ?_) (fun c_13 => ?_)
        · exact absurd c_13 (by decide)
        · refine tt_iconst (v := -1) (q := 17) hc rfl dX9_alike_16 rfl ?_
          refine tt_reti hX rfl dX9_alike_17 ?_
          exact hQ μ frm.rf hM
  · rw [two_l hk] at hQ
    refine tt_al0 (q := 1) hc dX9_alike_0 rfl ?_
    refine tt_il1 (q := 2) hc dX9_alike_1 rfl ?_
    refine tt_cV1 (q := 5) (d' := 1) (ci := 9) hc (by first | decide | omega) kmX9_isKept ml_X9_217 (by first | assumption | exact ⟨by decide, _, rfl⟩) rfl (Nat.le_of_ble_eq_true rfl) dX9_alike_2 rfl ?_
    refine c_X9_isKept a4 ?_
    rw [hin]
    dsimp only [Option.toList, List.nil_append, List.cons_append]
    first | (with_reducible refine chkb ?_; refine tt_ifeqB (t := 16) (q := 8) hc dX9_alike_5 rfl rfl (fun c_5 => ?_) (fun c_5 => ?_)) | (with_reducible refine chk1 ?_; refine tt_ifeqN (t := 16) (q := 8) hc (by omega) dX9_alike_5 rfl rfl (fun c_5 => ?_) (fun c_5 => ?_)) | refine tt_ifeq (t := 16) (q := 8) hc dX9_alike_5 rfl rfl (fun c_5 => ?_) (fun c_5 => ?_)
    · refine tt_iconst (v := -1) (q := 17) hc rfl dX9_alike_16 rfl ?_
      refine tt_reti hX rfl dX9_alike_17 ?_
      exact hQ μ frm.rf hM
    · exact absurd c_5 (by decide)
