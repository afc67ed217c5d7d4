/-! SEARCH: a chain -/
def gapN (B G : Nat → Bool) : Nat := cnt (fun s => B s != G s) 255 1
theorem gap_le (B G : Nat → Bool) : gapN B G ≤ 255 := cnt_le _ _ _
def inT (pts : Nat) : Nat → Nat → Nat → Bool
  | 0, _, _ => false
  | n + 1, p, s => Bool.xor (decide ((pts / 2 ^ p) &&& 1 = 1) && decide (s = pts ^^^ (pts &&& 2 ^ p))) (inT pts n (p + 1) s)
theorem togs_in (pts : Nat) : ∀ n p (B : Nat → Bool) s, togsP pts n p B s = Bool.xor (B s) (inT pts n p s)
  | 0, _, B, s => by simp [togsP, inT]
  | n + 1, p, B, s => by
    rw [togsP, togs_in pts n (p + 1), inT]
    by_cases h : (pts / 2 ^ p) &&& 1 = 1
    · rw [if_pos h]
      by_cases e : s = pts ^^^ (pts &&& 2 ^ p)
      · simp only [tog, e, if_true, h, decide_true, Bool.and_self]
        cases B (pts ^^^ (pts &&& 2 ^ p)) <;> simp
      · rw [decide_eq_true h, decide_eq_false e]
        simp [tog, e]
    · rw [if_neg h, decide_eq_false h]
      simp
theorem togA_togA (B : Nat → Bool) (pts : Nat) : togA (togA B pts) pts = B := by
  funext s
  rw [togA, togs_in, togA, togs_in]
  cases B s <;> cases inT pts 8 0 s <;> rfl
theorem gap_tog {B G : Nat → Bool} {s : Nat} (h0 : 0 < s) (h : s < 256) : (B s = G s → gapN (tog B s) G = gapN B G + 1) ∧ (¬ B s = G s → gapN (tog B s) G + 1 = gapN B G) := by
  have h2 := cnt_at (P := fun t => tog B s t != G t) (R := fun t => B t != G t) (b := s) (fun t ht => by simp [tog, ht]) 255 1 h0 (by omega)
  have e : tog B s s = !B s := by simp [tog]
  simp only [e] at h2
  refine ⟨fun z => ?_, fun z => ?_⟩
  · rw [z] at h2
    cases hg : G s <;> rw [hg] at h2 <;> simp at h2 <;> simp [gapN] <;> omega
  · cases hg : G s <;> cases hb : B s <;> rw [hg, hb] at z <;> first | exact absurd rfl z | (rw [hg, hb] at h2; simp at h2; simp [gapN]; omega)
theorem bI_inj {a b : Bool} : bI a = bI b ↔ a = b := ⟨bI_beq a b, fun h => by rw [h]⟩
theorem HD11 : HD 11 4 2 := ⟨by decide, _, rfl, _, rfl⟩
set_option maxHeartbeats 8000000 in
theorem c_X4_gap {l : Launch} {jg K : Nat} (hj : jg < 16) {B G : Nat → Bool} {μ : Mem} {Q : Option Value → Mem → Prop} (hR : RC μ 3 K B) (hG : RC μ jg K G) (hg : μ 11 2 = nI (40 + 2 * jg)) (hQ : Q (some (.int (nI (gapN B G)))) μ) : CC l 2 mX4_gap [.ref 11] μ Q := by
  refine CC.of (M := mX4_gap) (by decide +kernel) rfl (fun v h => by simp at h; subst h; rfl) (Nat.le_of_ble_eq_true rfl) (fun X hX => ?_)
  have hc := hX.cx
  have oB : HO (40 + 2 * 3) 0 := ⟨by omega, _, rfl⟩
  have oG : HO (40 + 2 * jg) 0 := ⟨by omega, _, sh_ho hj⟩
  have L : ∀ (n s m : Nat), s + n = 256 → m < s → Q (some (.int (nI (m + cnt (fun s => B s != G s) n s)))) μ → TT X 4 [.ref 11, .int (nI m), .int (nI s)] [] μ := by
    intro n
    induction n with
    | zero =>
      intro s m hs hm h
      refine tt_il2 (q := 5) hc dX4_gap_4 rfl ?_
      refine tt_sipush (v := nI 256) (q := 8) hc (by decide) dX4_gap_5 rfl ?_
      first | (with_reducible refine chk2 ?_; refine tt_icgeN (t := 39) (q := 11) hc (by omega) (by omega) dX4_gap_8 rfl rfl (fun c_8 => ?_) (fun c_8 => ?_)) | refine tt_icge (t := 39) (q := 11) hc dX4_gap_8 rfl rfl (fun c_8 => ?_) (fun c_8 => ?_)
      · refine tt_il1 (q := 40) hc dX4_gap_39 rfl ?_
        refine tt_reti hX rfl dX4_gap_40 ?_
        exact h
      · omega
    | succ n ih =>
      intro s m hs hm h
      rw [cnt] at h
      refine tt_il2 (q := 5) hc dX4_gap_4 rfl ?_
      refine tt_sipush (v := nI 256) (q := 8) hc (by decide) dX4_gap_5 rfl ?_
      first | (with_reducible refine chk2 ?_; refine tt_icgeN (t := 39) (q := 11) hc (by omega) (by omega) dX4_gap_8 rfl rfl (fun c_8 => ?_) (fun c_8 => ?_)) | refine tt_icge (t := 39) (q := 11) hc dX4_gap_8 rfl rfl (fun c_8 => ?_) (fun c_8 => ?_)
      · omega
      · refine tt_al0 (q := 12) hc dX4_gap_11 rfl ?_
        refine tt_getR (q := 15) hc fl_X4_12 (by first | assumption | exact ⟨by decide, _, rfl, rfl⟩) dX4_gap_12 rfl ?_
        refine tt_il2 (q := 16) hc dX4_gap_15 rfl ?_
        refine tt_cV1 (q := 19) (d' := 1) (ci := 0) hc (by first | decide | omega) kmX0_isBody ml_X4_41 (by first | assumption | exact ⟨by decide, _, rfl⟩) rfl (Nat.le_of_ble_eq_true rfl) dX4_gap_16 rfl ?_
        refine c_X0_isBody (j := 3) (by decide) hR ?_
        dsimp only [Option.toList, List.nil_append, List.cons_append]
        refine tt_al0 (q := 20) hc dX4_gap_19 rfl ?_
        refine tt_getD (q := 23) hc fl_X4_26 HD11 hg (by omega) dX4_gap_20 rfl ?_
        refine tt_il2 (q := 24) hc dX4_gap_23 rfl ?_
        refine tt_cV1 (q := 27) (d' := 1) (ci := 0) hc (by first | decide | omega) kmX0_isBody ml_X4_41 (by first | assumption | exact ⟨by decide, _, rfl⟩) rfl (Nat.le_of_ble_eq_true rfl) dX4_gap_24 rfl ?_
        refine c_X0_isBody hj hG ?_
        dsimp only [Option.toList, List.nil_append, List.cons_append]
        first | (with_reducible refine chk2 ?_; refine tt_iceqN (t := 33) (q := 30) hc (by omega) (by omega) dX4_gap_27 rfl rfl (fun c_27 => ?_) (fun c_27 => ?_)) | refine tt_iceq (t := 33) (q := 30) hc dX4_gap_27 rfl rfl (fun c_27 => ?_) (fun c_27 => ?_)
        · first | refine tt_inc2 (q := 36) hc dX4_gap_33 rfl (by decide) (incN _) ?_ | refine tt_inc2 (q := 36) hc dX4_gap_33 rfl (by decide) rfl ?_
          refine tt_goto (t := 4) hc dX4_gap_36 rfl ?_
          first
          | (rw [if_neg (by rw [bI_inj.mp c_27]; simp), Nat.zero_add] at h; exact ih _ _ (by omega) (by omega) h)
          | (rw [if_pos (by simp; exact fun z => c_27 (by rw [z])), ← Nat.add_assoc] at h; exact ih _ _ (by omega) (by omega) h)
        · first | refine tt_inc1 (q := 33) hc dX4_gap_30 rfl (by decide) (incN _) ?_ | refine tt_inc1 (q := 33) hc dX4_gap_30 rfl (by decide) rfl ?_
          first | refine tt_inc2 (q := 36) hc dX4_gap_33 rfl (by decide) (incN _) ?_ | refine tt_inc2 (q := 36) hc dX4_gap_33 rfl (by decide) rfl ?_
          refine tt_goto (t := 4) hc dX4_gap_36 rfl ?_
          first
          | (rw [if_neg (by rw [bI_inj.mp c_27]; simp), Nat.zero_add] at h; exact ih _ _ (by omega) (by omega) h)
          | (rw [if_pos (by simp; exact fun z => c_27 (by rw [z])), ← Nat.add_assoc] at h; exact ih _ _ (by omega) (by omega) h)
  refine tt_iconst (v := nI 0) (q := 1) hc rfl dX4_gap_0 rfl ?_
  refine tt_is1 (q := 2) hc dX4_gap_1 rfl (by decide) ?_
  refine tt_iconst (v := nI 1) (q := 3) hc rfl dX4_gap_2 rfl ?_
  refine tt_is2 (q := 4) hc dX4_gap_3 rfl (by decide) ?_
  exact L 255 1 0 rfl (by omega) (by rw [Nat.zero_add]; exact hQ)
theorem less_neB : ∀ pts, pts < 256 → ∀ p, p < 8 → ∀ p', p' < 8 → (decide (p = p') || !decide ((pts / 2 ^ p) &&& 1 = 1) || !decide ((pts / 2 ^ p') &&& 1 = 1) || !decide (pts ^^^ (pts &&& 2 ^ p) = pts ^^^ (pts &&& 2 ^ p'))) = true := by decide +kernel
theorem less_ne (pts : Nat) (h : pts < 256) (p : Nat) (hp : p < 8) (p' : Nat) (hp' : p' < 8) (hne : p ≠ p') (h1 : (pts / 2 ^ p) &&& 1 = 1) (h2 : (pts / 2 ^ p') &&& 1 = 1) : pts ^^^ (pts &&& 2 ^ p) ≠ pts ^^^ (pts &&& 2 ^ p') := by
  intro e
  have := less_neB pts h p hp p' hp'
  rw [decide_eq_false hne, decide_eq_true h1, decide_eq_true h2, decide_eq_true e] at this
  cases this
theorem pop_pos : ∀ s, s < 256 → 0 < pop s → 0 < s := by decide +kernel
set_option maxHeartbeats 8000000 in
theorem c_X4_widened {l : Launch} {jg K pts : Nat} (hj : jg < 16) {B G : Nat → Bool} {μ : Mem} {Q : Option Value → Mem → Prop} (hR : RC μ 3 K B) (hG : RC μ jg K G) (hg : μ 11 2 = nI (40 + 2 * jg)) (hb : pts < 256) (hp : pop pts = K + 1) (hQ : ∀ x, nI (gapN B G) + x = nI (gapN (togA B pts) G) → Q (some (.int x)) μ) : CC l 0 mX4_widened [.ref 11, .int (nI pts)] μ Q := by
  refine CC.of (M := mX4_widened) (by decide +kernel) rfl (fun v h => by simp at h; rcases h with rfl | rfl <;> rfl) (Nat.le_of_ble_eq_true rfl) (fun X hX => ?_)
  have hc := hX.cx
  have wB : HR (40 + 2 * 3) 0 1 (40 + 2 * 3 + 1) := ⟨by omega, _, rfl, rfl⟩
  have AB : HA (40 + 2 * 3 + 1) 0 256 := ⟨by omega, rfl, by decide⟩
  have wG : HR (40 + 2 * jg) 0 1 (40 + 2 * jg + 1) := ⟨by omega, _, sh_ho hj, rfl⟩
  have AG : HA (40 + 2 * jg + 1) 0 256 := ⟨by omega, sh_hw hj, by decide⟩
  have hK := hR.1.1
  have L : ∀ (n p : Nat) (more : Int32) (Bp : Nat → Bool) (w : Value), p + n = 8 → nI (gapN B G) + more = nI (gapN Bp G) → (∀ p', p ≤ p' → p' < 8 → (pts / 2 ^ p') &&& 1 = 1 → Bp (pts ^^^ (pts &&& 2 ^ p')) = B (pts ^^^ (pts &&& 2 ^ p'))) → (∀ x, nI (gapN B G) + x = nI (gapN (togsP pts n p Bp) G) → Q (some (.int x)) μ) → TT X 4 [.ref 11, .int (nI pts), .int more, .int (nI p), w] [] μ := by
    intro n
    induction n with
    | zero =>
      intro p more Bp w hp8 hm hB h
      refine tt_il3 (q := 5) hc dX4_widened_4 rfl ?_
      refine tt_bipush (v := nI 8) (q := 7) hc (by decide) dX4_widened_5 rfl ?_
      first | (with_reducible refine chk2 ?_; refine tt_icgeN (t := 65) (q := 10) hc (by omega) (by omega) dX4_widened_7 rfl rfl (fun c_7 => ?_) (fun c_7 => ?_)) | refine tt_icge (t := 65) (q := 10) hc dX4_widened_7 rfl rfl (fun c_7 => ?_) (fun c_7 => ?_)
      · refine tt_il2 (q := 66) hc dX4_widened_65 rfl ?_
        refine tt_reti hX rfl dX4_widened_66 ?_
        exact h more hm
      · omega
    | succ n ih =>
      intro p more Bp w hp8 hm hB h
      have h1 : (pts / 2 ^ p) &&& 1 ≤ 1 := Nat.and_le_right
      have h2 := fun z => less1 pts hb p (by omega) z
      rw [togsP] at h
      refine tt_il3 (q := 5) hc dX4_widened_4 rfl ?_
      refine tt_bipush (v := nI 8) (q := 7) hc (by decide) dX4_widened_5 rfl ?_
      first | (with_reducible refine chk2 ?_; refine tt_icgeN (t := 65) (q := 10) hc (by omega) (by omega) dX4_widened_7 rfl rfl (fun c_7 => ?_) (fun c_7 => ?_)) | refine tt_icge (t := 65) (q := 10) hc dX4_widened_7 rfl rfl (fun c_7 => ?_) (fun c_7 => ?_)
      · omega
      · refine tt_il1 (q := 11) hc dX4_widened_10 rfl ?_
        refine tt_il3 (q := 12) hc dX4_widened_11 rfl ?_
        first | (with_reducible refine chk2 ?_; refine tt_ishrN (q := 13) hc (by omega) (by omega) dX4_widened_12 rfl ?_) | refine tt_ishr (q := 13) hc dX4_widened_12 rfl ?_
        refine tt_iconst (v := nI 1) (q := 14) hc rfl dX4_widened_13 rfl ?_
        first | (with_reducible refine chk2 ?_; refine tt_iandN (q := 15) hc dX4_widened_14 rfl ?_) | (with_reducible refine chkan ?_; refine tt_iandnN (q := 15) hc dX4_widened_14 rfl ?_) | (with_reducible refine chkna ?_; refine tt_inandN (q := 15) hc dX4_widened_14 rfl ?_) | refine tt_iand (q := 15) hc dX4_widened_14 rfl ?_
        refine tt_iconst (v := nI 1) (q := 16) hc rfl dX4_widened_15 rfl ?_
        first | (with_reducible refine chk2 ?_; refine tt_icneN (t := 59) (q := 19) hc (by omega) (by omega) dX4_widened_16 rfl rfl (fun c_16 => ?_) (fun c_16 => ?_)) | refine tt_icne (t := 59) (q := 19) hc dX4_widened_16 rfl rfl (fun c_16 => ?_) (fun c_16 => ?_)
        · first | refine tt_inc3 (q := 62) hc dX4_widened_59 rfl (by decide) (incN _) ?_ | refine tt_inc3 (q := 62) hc dX4_widened_59 rfl (by decide) rfl ?_
          refine tt_goto (t := 4) hc dX4_widened_62 rfl ?_
          first
          | (rw [if_neg c_16] at h; exact ih _ _ _ _ (by omega) hm (fun p' q1 q2 => hB p' (by omega) q2) h)
          | rw [if_pos c_16] at h
            refine ih (p + 1) _ (tog Bp (pts ^^^ (pts &&& 2 ^ p))) _ (by omega) ?_ nx h
            first
              | (have hne : ¬ Bp (pts ^^^ (pts &&& 2 ^ p)) = G (pts ^^^ (pts &&& 2 ^ p)) := fun z => c_49 (by rw [e1, e2, ← eb, z])
                 rw [← Int32.add_assoc, hm, ← gt.2 hne]
                 exact pk_m1 _)
              | (have heq : Bp (pts ^^^ (pts &&& 2 ^ p)) = G (pts ^^^ (pts &&& 2 ^ p)) := by
                   rw [eb]
                   rw [e1, e2] at c_49
                   cases z1 : B (pts ^^^ (pts &&& 2 ^ p)) <;> cases z2 : G (pts ^^^ (pts &&& 2 ^ p)) <;> rw [z1, z2] at c_49 <;> first | rfl | exact absurd c_49 (by decide)
                 rw [← Int32.add_assoc, hm, gt.1 heq, nI_add])
        · have hl := h2 c_16
          have e1 := cW_body hR.1 hl.2 (by omega)
          have e2 := cW_body hG.1 hl.2 (by omega)
          have c1 := cW_le B (pts ^^^ (pts &&& 2 ^ p))
          have c2 := cW_le G (pts ^^^ (pts &&& 2 ^ p))
          have h0 := pop_pos _ hl.2 (by omega)
          have gt := gap_tog (B := Bp) (G := G) h0 hl.2
          have eb := hB p (Nat.le_refl p) (by omega) c_16
          have nx : ∀ p', p + 1 ≤ p' → p' < 8 → (pts / 2 ^ p') &&& 1 = 1 → tog Bp (pts ^^^ (pts &&& 2 ^ p)) (pts ^^^ (pts &&& 2 ^ p')) = B (pts ^^^ (pts &&& 2 ^ p')) := fun p' q1 q2 q3 => by
            rw [tog, if_neg (less_ne pts hb p' q2 p (by omega) (by omega) q3 c_16)]
            exact hB p' (by omega) q2 q3
          refine tt_il1 (q := 20) hc dX4_widened_19 rfl ?_
          refine tt_iconst (v := nI 1) (q := 21) hc rfl dX4_widened_20 rfl ?_
          refine tt_il3 (q := 22) hc dX4_widened_21 rfl ?_
          first | (with_reducible refine chks ?_; refine tt_ishl1 (q := 23) hc (by omega) dX4_widened_22 rfl ?_) | (with_reducible refine chk2 ?_; refine tt_ishlN (q := 23) hc (by omega) (by omega) dX4_widened_22 rfl ?_) | refine tt_ishl (q := 23) hc dX4_widened_22 rfl ?_
          refine tt_iconst (v := -1) (q := 24) hc rfl dX4_widened_23 rfl ?_
          first | (with_reducible refine chk2 ?_; refine tt_ixorN (q := 25) hc dX4_widened_24 rfl ?_) | refine tt_ixor (q := 25) hc dX4_widened_24 rfl ?_
          first | (with_reducible refine chk2 ?_; refine tt_iandN (q := 26) hc dX4_widened_25 rfl ?_) | (with_reducible refine chkan ?_; refine tt_iandnN (q := 26) hc dX4_widened_25 rfl ?_) | (with_reducible refine chkna ?_; refine tt_inandN (q := 26) hc dX4_widened_25 rfl ?_) | refine tt_iand (q := 26) hc dX4_widened_25 rfl ?_
          refine tt_is4 (q := 28) hc dX4_widened_26 rfl (by decide) ?_
          refine tt_il2 (q := 29) hc dX4_widened_28 rfl ?_
          refine tt_al0 (q := 30) hc dX4_widened_29 rfl ?_
          refine tt_getR (q := 33) hc fl_X4_12 (by first | assumption | exact ⟨by decide, _, rfl, rfl⟩) dX4_widened_30 rfl ?_
          refine tt_getR (q := 36) hc fl_X4_45 (by first | assumption | exact ⟨by decide, _, rfl, rfl⟩) dX4_widened_33 rfl ?_
          refine tt_il4 (q := 38) hc dX4_widened_36 rfl ?_
          refine tt_iald (q := 39) hc (by first | assumption | exact ⟨by decide, rfl, by decide⟩) (by omega) dX4_widened_38 rfl ?_
          rw [hR.2.2 _ hl.2]
          refine tt_al0 (q := 40) hc dX4_widened_39 rfl ?_
          refine tt_getD (q := 43) hc fl_X4_26 HD11 hg (by omega) dX4_widened_40 rfl ?_
          refine tt_getR (q := 46) hc fl_X4_45 (by first | assumption | exact ⟨by decide, _, rfl, rfl⟩) dX4_widened_43 rfl ?_
          refine tt_il4 (q := 48) hc dX4_widened_46 rfl ?_
          refine tt_iald (q := 49) hc (by first | assumption | exact ⟨by decide, rfl, by decide⟩) (by omega) dX4_widened_48 rfl ?_
          rw [hG.2.2 _ hl.2]
          first | (with_reducible refine chk2 ?_; refine tt_icneN (t := 56) (q := 52) hc (by omega) (by omega) dX4_widened_49 rfl rfl (fun c_49 => ?_) (fun c_49 => ?_)) | refine tt_icne (t := 56) (q := 52) hc dX4_widened_49 rfl rfl (fun c_49 => ?_) (fun c_49 => ?_)
          · refine tt_iconst (v := -1) (q := 57) hc rfl dX4_widened_56 rfl ?_
            first | (with_reducible refine chk2 ?_; refine tt_iaddN (q := 58) hc dX4_widened_57 rfl ?_) | refine tt_iadd (q := 58) hc dX4_widened_57 rfl ?_
            refine tt_is2 (q := 59) hc dX4_widened_58 rfl (by decide) ?_
            first | refine tt_inc3 (q := 62) hc dX4_widened_59 rfl (by decide) (incN _) ?_ | refine tt_inc3 (q := 62) hc dX4_widened_59 rfl (by decide) rfl ?_
            refine tt_goto (t := 4) hc dX4_widened_62 rfl ?_
            first
            | (rw [if_neg c_16] at h; exact ih _ _ _ _ (by omega) hm (fun p' q1 q2 => hB p' (by omega) q2) h)
            | rw [if_pos c_16] at h
              refine ih (p + 1) _ (tog Bp (pts ^^^ (pts &&& 2 ^ p))) _ (by omega) ?_ nx h
              first
                | (have hne : ¬ Bp (pts ^^^ (pts &&& 2 ^ p)) = G (pts ^^^ (pts &&& 2 ^ p)) := fun z => c_49 (by rw [e1, e2, ← eb, z])
                   rw [← Int32.add_assoc, hm, ← gt.2 hne]
                   exact pk_m1 _)
                | (have heq : Bp (pts ^^^ (pts &&& 2 ^ p)) = G (pts ^^^ (pts &&& 2 ^ p)) := by
                     rw [eb]
                     rw [e1, e2] at c_49
                     cases z1 : B (pts ^^^ (pts &&& 2 ^ p)) <;> cases z2 : G (pts ^^^ (pts &&& 2 ^ p)) <;> rw [z1, z2] at c_49 <;> first | rfl | exact absurd c_49 (by decide)
                   rw [← Int32.add_assoc, hm, gt.1 heq, nI_add])
          · refine tt_iconst (v := nI 1) (q := 53) hc rfl dX4_widened_52 rfl ?_
            refine tt_goto (t := 57) hc dX4_widened_53 rfl ?_
            first | (with_reducible refine chk2 ?_; refine tt_iaddN (q := 58) hc dX4_widened_57 rfl ?_) | refine tt_iadd (q := 58) hc dX4_widened_57 rfl ?_
            refine tt_is2 (q := 59) hc dX4_widened_58 rfl (by decide) ?_
            first | refine tt_inc3 (q := 62) hc dX4_widened_59 rfl (by decide) (incN _) ?_ | refine tt_inc3 (q := 62) hc dX4_widened_59 rfl (by decide) rfl ?_
            refine tt_goto (t := 4) hc dX4_widened_62 rfl ?_
            first
            | (rw [if_neg c_16] at h; exact ih _ _ _ _ (by omega) hm (fun p' q1 q2 => hB p' (by omega) q2) h)
            | rw [if_pos c_16] at h
              refine ih (p + 1) _ (tog Bp (pts ^^^ (pts &&& 2 ^ p))) _ (by omega) ?_ nx h
              first
                | (have hne : ¬ Bp (pts ^^^ (pts &&& 2 ^ p)) = G (pts ^^^ (pts &&& 2 ^ p)) := fun z => c_49 (by rw [e1, e2, ← eb, z])
                   rw [← Int32.add_assoc, hm, ← gt.2 hne]
                   exact pk_m1 _)
                | (have heq : Bp (pts ^^^ (pts &&& 2 ^ p)) = G (pts ^^^ (pts &&& 2 ^ p)) := by
                     rw [eb]
                     rw [e1, e2] at c_49
                     cases z1 : B (pts ^^^ (pts &&& 2 ^ p)) <;> cases z2 : G (pts ^^^ (pts &&& 2 ^ p)) <;> rw [z1, z2] at c_49 <;> first | rfl | exact absurd c_49 (by decide)
                   rw [← Int32.add_assoc, hm, gt.1 heq, nI_add])
  refine tt_iconst (v := nI 0) (q := 1) hc rfl dX4_widened_0 rfl ?_
  refine tt_is2 (q := 2) hc dX4_widened_1 rfl (by decide) ?_
  refine tt_iconst (v := nI 0) (q := 3) hc rfl dX4_widened_2 rfl ?_
  refine tt_is3 (q := 4) hc dX4_widened_3 rfl (by decide) ?_
  exact L 8 0 (nI 0) B _ rfl (by rw [nI_add, Nat.add_zero]) (fun _ _ _ _ => rfl) hQ
def rlp (rec_ : (Nat → Bool) → Option (List Nat)) (K : Nat) (G : Nat → Bool) (lst n : Nat) (B : Nat → Bool) : Nat → Nat → Nat → Option (List Nat)
  | 0, _, _ => none
  | m + 1, a, num =>
    if prt K B a = 0 then rlp rec_ K G lst n B m (a + 1) num
    else if lst ≤ pop (prt K B a) ∧ gapN (togA B (a ||| prt K B a)) G ≤ n * (K + 1) then
      match rec_ (togA B (a ||| prt K B a)) with
      | some p => some (num :: p)
      | none => rlp rec_ K G lst n B m (a + 1) (num + 1)
    else rlp rec_ K G lst n B m (a + 1) (num + 1)
def rch (K : Nat) (G : Nat → Bool) (lst : Nat) : Nat → (Nat → Bool) → Option (List Nat)
  | 0, B => if gapN B G = 0 then some [] else none
  | n + 1, B => if gapN B G ≤ (n + 1) * (K + 1) then rlp (rch K G lst n) K G lst n B 255 1 0 else none
theorem HA12 : HA 12 0 3 := ⟨by decide, rfl, by decide⟩
set_option maxHeartbeats 16000000 in
theorem c_X4_reach {l : Launch} {jg K lst : Nat} (hj : jg < 16) (hj3 : jg ≠ 3) {G : Nat → Bool} (hl2 : lst ≤ 2) : ∀ (n len done : Nat) (B : Nat → Bool) (μ : Mem) (Q : Option Value → Mem → Prop), len = done + n → len ≤ 3 → RC μ 3 K B → RC μ jg K G → μ 11 2 = nI (40 + 2 * jg) → μ 11 3 = nI lst → (∀ μ', frm [47, 12] μ μ' → (∀ k, k < done → μ' 12 k = μ 12 k) → (rch K G lst n B = none → RC μ' 3 K B) → (∀ p, rch K G lst n B = some p → ∀ i x, p[i]? = some x → μ' 12 (done + i) = nI x) → Q (some (.int (bI (rch K G lst n B).isSome))) μ') → CC l (n + 3) mX4_reach [.ref 11, .int (nI len), .int (nI done), .int (nI (gapN B G))] μ Q := by
  intro n
  induction n with
  | zero =>
    intro len done B μ Q hlen h3 hR hG hg hl hQ
    refine CC.of (M := mX4_reach) (by decide +kernel) rfl (fun v h => by simp at h; rcases h with rfl | rfl | rfl | rfl <;> rfl) (Nat.le_of_ble_eq_true rfl) (fun X hX => ?_)
    have hc := hX.cx
    have hgl := gap_le B G
    have h := hQ μ frm.rf (fun _ _ => rfl) (fun _ => hR) (fun p z i x q => by
      rw [rch] at z
      split at z
      · cases z
        simp at q
      · cases z)
    rw [rch] at h
    refine tt_il1 (q := 1) hc dX4_reach_0 rfl ?_
    refine tt_il2 (q := 2) hc dX4_reach_1 rfl ?_
    first | (with_reducible refine chk2 ?_; refine tt_isubN (q := 3) hc (by omega) dX4_reach_2 rfl ?_) | refine tt_isub (q := 3) hc dX4_reach_2 rfl ?_
    rw [show len - done = 0 by omega]
    refine tt_is4 (q := 5) hc dX4_reach_3 rfl (by decide) ?_
    refine tt_il4 (q := 7) hc dX4_reach_5 rfl ?_
    first | (with_reducible refine chk1 ?_; refine tt_ifleN (t := 15) (q := 10) hc (by omega) dX4_reach_7 rfl rfl (fun c_7 => ?_) (fun c_7 => ?_)) | refine tt_ifle (t := 15) (q := 10) hc dX4_reach_7 rfl rfl (fun c_7 => ?_) (fun c_7 => ?_)
    · refine tt_il3 (q := 16) hc dX4_reach_15 rfl ?_
      first | (with_reducible refine chkb ?_; refine tt_ifneB (t := 23) (q := 19) hc dX4_reach_16 rfl rfl (fun c_16 => ?_) (fun c_16 => ?_)) | (with_reducible refine chk1 ?_; refine tt_ifneN (t := 23) (q := 19) hc (by omega) dX4_reach_16 rfl rfl (fun c_16 => ?_) (fun c_16 => ?_)) | refine tt_ifne (t := 23) (q := 19) hc dX4_reach_16 rfl rfl (fun c_16 => ?_) (fun c_16 => ?_)
      · refine tt_iconst (v := nI 0) (q := 24) hc rfl dX4_reach_23 rfl ?_
        refine tt_retz hX rfl (by first | decide | exact bI_01 _) dX4_reach_24 ?_
        first
        | (rw [if_neg (by omega)] at h; exact h)
        | (rw [if_pos c_16] at h; exact h)
      · refine tt_iconst (v := nI 1) (q := 20) hc rfl dX4_reach_19 rfl ?_
        refine tt_goto (t := 24) hc dX4_reach_20 rfl ?_
        refine tt_retz hX rfl (by first | decide | exact bI_01 _) dX4_reach_24 ?_
        first
        | (rw [if_neg (by omega)] at h; exact h)
        | (rw [if_pos c_16] at h; exact h)
    · omega
  | succ n ihn =>
    intro len done B μ Q hlen h3 hR hG hg hl hQ
    refine CC.of (M := mX4_reach) (by decide +kernel) rfl (fun v h => by simp at h; rcases h with rfl | rfl | rfl | rfl <;> rfl) (Nat.le_of_ble_eq_true rfl) (fun X hX => ?_)
    have hc := hX.cx
    have hgl := gap_le B G
    have hK := hR.1.1
    have m1 : (n + 1) * (K + 1) ≤ 3 * 5 := Nat.mul_le_mul (by omega) (by omega)
    have m2 : n * (K + 1) ≤ 3 * 5 := Nat.mul_le_mul (by omega) (by omega)
    have oB : HO (40 + 2 * 3) 0 := ⟨by omega, _, rfl⟩
    have kB : HI (40 + 2 * 3) 0 0 := ⟨by omega, _, rfl, _, rfl⟩
    have a12 := HA12
    have h11 : ∀ ν : Mem, frm [47, 12] μ ν → ν 11 = μ 11 := fun ν hf => hf 11 (by decide)
    have L : ∀ (m a num : Nat) (ν : Mem) (w7 w8 w9 : Value), a + m = 256 → 0 < a → frm [47, 12] μ ν → (∀ k, k < done → ν 12 k = μ 12 k) → RC ν 3 K B → (∀ μ', frm [47, 12] μ μ' → (∀ k, k < done → μ' 12 k = μ 12 k) → (rlp (rch K G lst n) K G lst n B m a num = none → RC μ' 3 K B) → (∀ p, rlp (rch K G lst n) K G lst n B m a num = some p → ∀ i x, p[i]? = some x → μ' 12 (done + i) = nI x) → Q (some (.int (bI (rlp (rch K G lst n) K G lst n B m a num).isSome))) μ') → TT X 49 [.ref 11, .int (nI len), .int (nI done), .int (nI (gapN B G)), .int (nI (n + 1)), .int (nI num), .int (nI a), w7, w8, w9] [] ν := by
      intro m
      induction m with
      | zero =>
        intro a num ν w7 w8 w9 ha h0 hf h12 hRν h
        refine tt_il6 (q := 51) hc dX4_reach_49 rfl ?_
        refine tt_sipush (v := nI 256) (q := 54) hc (by decide) dX4_reach_51 rfl ?_
        first | (with_reducible refine chk2 ?_; refine tt_icgeN (t := 171) (q := 57) hc (by omega) (by omega) dX4_reach_54 rfl rfl (fun c_54 => ?_) (fun c_54 => ?_)) | refine tt_icge (t := 171) (q := 57) hc dX4_reach_54 rfl rfl (fun c_54 => ?_) (fun c_54 => ?_)
        · refine tt_iconst (v := nI 0) (q := 172) hc rfl dX4_reach_171 rfl ?_
          refine tt_retz hX rfl (by first | decide | exact bI_01 _) dX4_reach_172 ?_
          exact h ν hf h12 (fun _ => hRν) (fun p z => by cases z)
        · omega
      | succ m ih =>
        intro a num ν w7 w8 w9 ha h0 hf h12 hRν h
        have hlt := prt_lt K B a
        have hpl := pop_le _ hlt
        have hGν := hG.frm hf (by simp; omega) (by simp; omega)
        have hgν : ν 11 2 = nI (40 + 2 * jg) := by rw [h11 ν hf]; exact hg
        have hlν : ν 11 3 = nI lst := by rw [h11 ν hf]; exact hl
        have hpp := fun z => prt_pop hR.1 (by omega : a < 256) z
        have hg2 := gap_le (togA B (a ||| prt K B a)) G
        rw [rlp] at h
        generalize hr : rch K G lst n (togA B (a ||| prt K B a)) = r at h
        refine tt_il6 (q := 51) hc dX4_reach_49 rfl ?_
        refine tt_sipush (v := nI 256) (q := 54) hc (by decide) dX4_reach_51 rfl ?_
        first | (with_reducible refine chk2 ?_; refine tt_icgeN (t := 171) (q := 57) hc (by omega) (by omega) dX4_reach_54 rfl rfl (fun c_54 => ?_) (fun c_54 => ?_)) | refine tt_icge (t := 171) (q := 57) hc dX4_reach_54 rfl rfl (fun c_54 => ?_) (fun c_54 => ?_)
        · omega
        · refine tt_al0 (q := 58) hc dX4_reach_57 rfl ?_
          refine tt_getR (q := 61) hc fl_X4_12 (by first | assumption | exact ⟨by decide, _, rfl, rfl⟩) dX4_reach_58 rfl ?_
          refine tt_il6 (q := 63) hc dX4_reach_61 rfl ?_
          refine tt_cV1 (q := 66) (d' := 2) (ci := 0) hc (by first | decide | omega) kmX0_partner ml_X4_51 (by first | assumption | exact ⟨by decide, _, rfl⟩) rfl (Nat.le_of_ble_eq_true rfl) dX4_reach_63 rfl ?_
          refine c_X0_partner (j := 3) (by decide) hRν ?_
          dsimp only [Option.toList, List.nil_append, List.cons_append]
          refine tt_is7 (q := 68) hc dX4_reach_66 rfl (by decide) ?_
          refine tt_il7 (q := 70) hc dX4_reach_68 rfl ?_
          first | (with_reducible refine chkb ?_; refine tt_ifeqB (t := 165) (q := 73) hc dX4_reach_70 rfl rfl (fun c_70 => ?_) (fun c_70 => ?_)) | (with_reducible refine chk1 ?_; refine tt_ifeqN (t := 165) (q := 73) hc (by omega) dX4_reach_70 rfl rfl (fun c_70 => ?_) (fun c_70 => ?_)) | refine tt_ifeq (t := 165) (q := 73) hc dX4_reach_70 rfl rfl (fun c_70 => ?_) (fun c_70 => ?_)
          · first | refine tt_inc6 (q := 168) hc dX4_reach_165 rfl (by decide) (incN _) ?_ | refine tt_inc6 (q := 168) hc dX4_reach_165 rfl (by decide) rfl ?_
            refine tt_goto (t := 49) hc dX4_reach_168 rfl ?_
            first
            | (rw [if_pos c_70] at h; exact ih (a + 1) num ν _ _ _ (by omega) (by omega) hf h12 hRν h)
            | (rw [if_neg (by omega), if_neg (by omega)] at h; exact ih (a + 1) (num + 1) ν _ _ _ (by omega) (by omega) hf h12 hRν h)
            | rw [if_neg (by omega), if_pos ⟨by omega, by omega⟩, rn] at h
              have hf3' : frm [47, 12] ν2 ν3 := hf3.mono (by simp)
              exact ih (a + 1) (num + 1) ν3 _ _ _ (by omega) (by omega) (((hf.tr hfa).tr hf2).tr hf3') (fun k hk => by rw [hf3 12 (by simp), hq2 k (by omega), hp1 k hk, h12 k hk]) hR3 h
          · refine tt_il6 (q := 75) hc dX4_reach_73 rfl ?_
            refine tt_il7 (q := 77) hc dX4_reach_75 rfl ?_
            first | (with_reducible refine chk2 ?_; refine tt_iorN (q := 78) hc dX4_reach_77 rfl ?_) | refine tt_ior (q := 78) hc dX4_reach_77 rfl ?_
            refine tt_is8 (q := 80) hc dX4_reach_78 rfl (by decide) ?_
            refine tt_il3 (q := 81) hc dX4_reach_80 rfl ?_
            refine tt_al0 (q := 82) hc dX4_reach_81 rfl ?_
            refine tt_il8 (q := 84) hc dX4_reach_82 rfl ?_
            refine tt_cV1 (q := 87) (d' := 0) (ci := 4) hc (by first | decide | omega) kmX4_widened ml_X4_55 (by first | assumption | exact ⟨by decide, _, rfl⟩) rfl (Nat.le_of_ble_eq_true rfl) dX4_reach_84 rfl ?_
            refine c_X4_widened hj hRν hGν hgν (or_lt (by omega) hlt) (hpp (by omega)).2.2.2.2.2 (fun x hx => ?_)
            dsimp only [Option.toList, List.nil_append, List.cons_append]
            refine tt_iadd (q := 88) hc dX4_reach_87 rfl ?_
            rw [hx]
            refine tt_is9 (q := 90) hc dX4_reach_88 rfl (by decide) ?_
            refine tt_il7 (q := 92) hc dX4_reach_90 rfl ?_
            refine tt_cS1 (q := 95) (d' := 0) hc (by first | decide | omega) kmJ6_bitCount_0f7a4 ml_X4_58 (Nat.le_of_ble_eq_true rfl) dX4_reach_92 rfl ?_
            refine c_J6_bitCount_0f7a4 ?_
            dsimp only [Option.toList, List.nil_append, List.cons_append]
            refine tt_al0 (q := 96) hc dX4_reach_95 rfl ?_
            refine tt_getI (q := 99) hc fl_X4_29 (by first | assumption | exact ⟨by decide, _, rfl, _, rfl⟩) dX4_reach_96 rfl ?_
            rw [hlν]
            first | (with_reducible refine chk2 ?_; refine tt_icltN (t := 162) (q := 102) hc (by omega) (by omega) dX4_reach_99 rfl rfl (fun c_99 => ?_) (fun c_99 => ?_)) | refine tt_iclt (t := 162) (q := 102) hc dX4_reach_99 rfl rfl (fun c_99 => ?_) (fun c_99 => ?_)
            · first | refine tt_inc5 (q := 165) hc dX4_reach_162 rfl (by decide) (incN _) ?_ | refine tt_inc5 (q := 165) hc dX4_reach_162 rfl (by decide) rfl ?_
              first | refine tt_inc6 (q := 168) hc dX4_reach_165 rfl (by decide) (incN _) ?_ | refine tt_inc6 (q := 168) hc dX4_reach_165 rfl (by decide) rfl ?_
              refine tt_goto (t := 49) hc dX4_reach_168 rfl ?_
              first
              | (rw [if_pos c_70] at h; exact ih (a + 1) num ν _ _ _ (by omega) (by omega) hf h12 hRν h)
              | (rw [if_neg (by omega), if_neg (by omega)] at h; exact ih (a + 1) (num + 1) ν _ _ _ (by omega) (by omega) hf h12 hRν h)
              | rw [if_neg (by omega), if_pos ⟨by omega, by omega⟩, rn] at h
                have hf3' : frm [47, 12] ν2 ν3 := hf3.mono (by simp)
                exact ih (a + 1) (num + 1) ν3 _ _ _ (by omega) (by omega) (((hf.tr hfa).tr hf2).tr hf3') (fun k hk => by rw [hf3 12 (by simp), hq2 k (by omega), hp1 k hk, h12 k hk]) hR3 h
            · refine tt_il9 (q := 104) hc dX4_reach_102 rfl ?_
              refine tt_il4 (q := 106) hc dX4_reach_104 rfl ?_
              refine tt_iconst (v := nI 1) (q := 107) hc rfl dX4_reach_106 rfl ?_
              first | (with_reducible refine chk2 ?_; refine tt_isubN (q := 108) hc (by omega) dX4_reach_107 rfl ?_) | refine tt_isub (q := 108) hc dX4_reach_107 rfl ?_
              rw [show n + 1 - 1 = n by omega]
              refine tt_al0 (q := 109) hc dX4_reach_108 rfl ?_
              refine tt_getR (q := 112) hc fl_X4_12 (by first | assumption | exact ⟨by decide, _, rfl, rfl⟩) dX4_reach_109 rfl ?_
              refine tt_getI (q := 115) hc fl_X4_48 (by first | assumption | exact ⟨by decide, _, rfl, _, rfl⟩) dX4_reach_112 rfl ?_
              rw [hRν.2.1]
              refine tt_iconst (v := nI 1) (q := 116) hc rfl dX4_reach_115 rfl ?_
              first | (with_reducible refine chk2 ?_; refine tt_iaddN (q := 117) hc dX4_reach_116 rfl ?_) | refine tt_iadd (q := 117) hc dX4_reach_116 rfl ?_
              first | (with_reducible refine chk2 ?_; refine tt_imulN (q := 118) hc dX4_reach_117 rfl ?_) | refine tt_imul (q := 118) hc dX4_reach_117 rfl ?_
              first | (with_reducible refine chk2 ?_; refine tt_icgtN (t := 162) (q := 121) hc (by omega) (by omega) dX4_reach_118 rfl rfl (fun c_118 => ?_) (fun c_118 => ?_)) | refine tt_icgt (t := 162) (q := 121) hc dX4_reach_118 rfl rfl (fun c_118 => ?_) (fun c_118 => ?_)
              · first | refine tt_inc5 (q := 165) hc dX4_reach_162 rfl (by decide) (incN _) ?_ | refine tt_inc5 (q := 165) hc dX4_reach_162 rfl (by decide) rfl ?_
                first | refine tt_inc6 (q := 168) hc dX4_reach_165 rfl (by decide) (incN _) ?_ | refine tt_inc6 (q := 168) hc dX4_reach_165 rfl (by decide) rfl ?_
                refine tt_goto (t := 49) hc dX4_reach_168 rfl ?_
                first
                | (rw [if_pos c_70] at h; exact ih (a + 1) num ν _ _ _ (by omega) (by omega) hf h12 hRν h)
                | (rw [if_neg (by omega), if_neg (by omega)] at h; exact ih (a + 1) (num + 1) ν _ _ _ (by omega) (by omega) hf h12 hRν h)
                | rw [if_neg (by omega), if_pos ⟨by omega, by omega⟩, rn] at h
                  have hf3' : frm [47, 12] ν2 ν3 := hf3.mono (by simp)
                  exact ih (a + 1) (num + 1) ν3 _ _ _ (by omega) (by omega) (((hf.tr hfa).tr hf2).tr hf3') (fun k hk => by rw [hf3 12 (by simp), hq2 k (by omega), hp1 k hk, h12 k hk]) hR3 h
              · refine tt_al0 (q := 122) hc dX4_reach_121 rfl ?_
                refine tt_getR (q := 125) hc fl_X4_18 (by first | assumption | exact ⟨by decide, _, rfl, rfl⟩) dX4_reach_122 rfl ?_
                refine tt_il2 (q := 126) hc dX4_reach_125 rfl ?_
                refine tt_il5 (q := 128) hc dX4_reach_126 rfl ?_
                refine tt_iast (q := 129) hc (by first | assumption | exact ⟨by decide, rfl, by decide⟩) (by omega) dX4_reach_128 rfl ?_
                refine tt_al0 (q := 130) hc dX4_reach_129 rfl ?_
                refine tt_getR (q := 133) hc fl_X4_12 (by first | assumption | exact ⟨by decide, _, rfl, rfl⟩) dX4_reach_130 rfl ?_
                refine tt_il8 (q := 135) hc dX4_reach_133 rfl ?_
                refine tt_cV1 (q := 138) (d' := 1) (ci := 0) hc (by first | decide | omega) kmX0_toggleAround ml_X4_63 (by first | assumption | exact ⟨by decide, _, rfl⟩) rfl (Nat.le_of_ble_eq_true rfl) dX4_reach_135 rfl ?_
                refine c_X0_toggleAround (j := 3) (by decide) (hRν.frm (l := [12]) frm.set (by simp) (by simp)) (or_lt (by omega) hlt) (hpp (by omega)).2.2.2.2.2 (fun ν1 hf1 hR1 => ?_)
                have hfa : frm [47, 12] ν ν1 := ((frm.set (i := 12)).mono (by simp)).tr (hf1.mono (by simp))
                have hp1 : ∀ k, k < done → ν1 12 k = ν 12 k := fun k hk => by rw [hf1 12 (by simp), mset_eq, pk_un (by omega)]
                have hpd : ν1 12 done = nI num := by rw [hf1 12 (by simp), mset_eq, pk_us]
                dsimp only [Option.toList, List.nil_append, List.cons_append]
                refine tt_al0 (q := 139) hc dX4_reach_138 rfl ?_
                refine tt_il1 (q := 140) hc dX4_reach_139 rfl ?_
                refine tt_il2 (q := 141) hc dX4_reach_140 rfl ?_
                refine tt_iconst (v := nI 1) (q := 142) hc rfl dX4_reach_141 rfl ?_
                first | (with_reducible refine chk2 ?_; refine tt_iaddN (q := 143) hc dX4_reach_142 rfl ?_) | refine tt_iadd (q := 143) hc dX4_reach_142 rfl ?_
                refine tt_il9 (q := 145) hc dX4_reach_143 rfl ?_
                refine tt_cS4 (q := 148) (d' := n + 3) hc (by first | decide | omega) kmX4_reach ml_X4_37 (Nat.le_of_ble_eq_true rfl) dX4_reach_145 rfl ?_
                refine ihn len (done + 1) (togA B (a ||| prt K B a)) ν1 _ (by omega) h3 hR1 (hGν.frm hfa (by simp; omega) (by simp; omega)) (by rw [h11 ν1 (hf.tr hfa)]; exact hg) (by rw [h11 ν1 (hf.tr hfa)]; exact hl) (fun ν2 hf2 hq2 hN2 hS2 => ?_)
                rw [hr] at hN2 hS2 ⊢
                dsimp only [Option.toList, List.nil_append, List.cons_append]
                first | (with_reducible refine chkb ?_; refine tt_ifeqB (t := 153) (q := 151) hc dX4_reach_148 rfl rfl (fun c_148 => ?_) (fun c_148 => ?_)) | (with_reducible refine chk1 ?_; refine tt_ifeqN (t := 153) (q := 151) hc (by omega) dX4_reach_148 rfl rfl (fun c_148 => ?_) (fun c_148 => ?_)) | refine tt_ifeq (t := 153) (q := 151) hc dX4_reach_148 rfl rfl (fun c_148 => ?_) (fun c_148 => ?_)
                · refine tt_al0 (q := 154) hc dX4_reach_153 rfl ?_
                  refine tt_getR (q := 157) hc fl_X4_12 (by first | assumption | exact ⟨by decide, _, rfl, rfl⟩) dX4_reach_154 rfl ?_
                  refine tt_il8 (q := 159) hc dX4_reach_157 rfl ?_
                  refine tt_cV1 (q := 162) (d' := 1) (ci := 0) hc (by first | decide | omega) kmX0_toggleAround ml_X4_63 (by first | assumption | exact ⟨by decide, _, rfl⟩) rfl (Nat.le_of_ble_eq_true rfl) dX4_reach_159 rfl ?_
                  have rn : r = none := by cases r; rfl; cases c_148
                  refine c_X0_toggleAround (j := 3) (by decide) (hN2 rn) (or_lt (by omega) hlt) (hpp (by omega)).2.2.2.2.2 (fun ν3 hf3 hR3 => ?_)
                  rw [togA_togA] at hR3
                  dsimp only [Option.toList, List.nil_append, List.cons_append]
                  first | refine tt_inc5 (q := 165) hc dX4_reach_162 rfl (by decide) (incN _) ?_ | refine tt_inc5 (q := 165) hc dX4_reach_162 rfl (by decide) rfl ?_
                  first | refine tt_inc6 (q := 168) hc dX4_reach_165 rfl (by decide) (incN _) ?_ | refine tt_inc6 (q := 168) hc dX4_reach_165 rfl (by decide) rfl ?_
                  refine tt_goto (t := 49) hc dX4_reach_168 rfl ?_
                  first
                  | (rw [if_pos c_70] at h; exact ih (a + 1) num ν _ _ _ (by omega) (by omega) hf h12 hRν h)
                  | (rw [if_neg (by omega), if_neg (by omega)] at h; exact ih (a + 1) (num + 1) ν _ _ _ (by omega) (by omega) hf h12 hRν h)
                  | rw [if_neg (by omega), if_pos ⟨by omega, by omega⟩, rn] at h
                    have hf3' : frm [47, 12] ν2 ν3 := hf3.mono (by simp)
                    exact ih (a + 1) (num + 1) ν3 _ _ _ (by omega) (by omega) (((hf.tr hfa).tr hf2).tr hf3') (fun k hk => by rw [hf3 12 (by simp), hq2 k (by omega), hp1 k hk, h12 k hk]) hR3 h
                · refine tt_iconst (v := nI 1) (q := 152) hc rfl dX4_reach_151 rfl ?_
                  refine tt_retz hX rfl (by first | decide | exact bI_01 _) dX4_reach_152 ?_
                  obtain ⟨p, rfl⟩ := Option.isSome_iff_exists.mp c_148
                  rw [if_neg (by omega), if_pos ⟨by omega, by omega⟩] at h
                  refine h ν2 ((hf.tr hfa).tr hf2) (fun k hk => by rw [hq2 k (by omega), hp1 k hk, h12 k hk]) (fun z => by cases z) (fun p' z i x q => ?_)
                  cases z
                  cases i with
                  | zero =>
                    simp only [List.getElem?_cons_zero, Option.some.injEq] at q
                    rw [Nat.add_zero, hq2 done (by omega), hpd, q]
                  | succ i =>
                    simp only [List.getElem?_cons_succ] at q
                    rw [← hS2 p rfl i x q]
                    congr 1
                    omega
    rw [rch] at hQ
    refine tt_il1 (q := 1) hc dX4_reach_0 rfl ?_
    refine tt_il2 (q := 2) hc dX4_reach_1 rfl ?_
    first | (with_reducible refine chk2 ?_; refine tt_isubN (q := 3) hc (by omega) dX4_reach_2 rfl ?_) | refine tt_isub (q := 3) hc dX4_reach_2 rfl ?_
    rw [show len - done = n + 1 by omega]
    refine tt_is4 (q := 5) hc dX4_reach_3 rfl (by decide) ?_
    refine tt_il4 (q := 7) hc dX4_reach_5 rfl ?_
    first | (with_reducible refine chk1 ?_; refine tt_ifleN (t := 15) (q := 10) hc (by omega) dX4_reach_7 rfl rfl (fun c_7 => ?_) (fun c_7 => ?_)) | refine tt_ifle (t := 15) (q := 10) hc dX4_reach_7 rfl rfl (fun c_7 => ?_) (fun c_7 => ?_)
    · omega
    · refine tt_il2 (q := 11) hc dX4_reach_10 rfl ?_
      refine tt_iconst (v := nI 3) (q := 12) hc rfl dX4_reach_11 rfl ?_
      first | (with_reducible refine chk2 ?_; refine tt_icltN (t := 25) (q := 15) hc (by omega) (by omega) dX4_reach_12 rfl rfl (fun c_12 => ?_) (fun c_12 => ?_)) | refine tt_iclt (t := 25) (q := 15) hc dX4_reach_12 rfl rfl (fun c_12 => ?_) (fun c_12 => ?_)
      · refine tt_il3 (q := 26) hc dX4_reach_25 rfl ?_
        refine tt_il4 (q := 28) hc dX4_reach_26 rfl ?_
        refine tt_al0 (q := 29) hc dX4_reach_28 rfl ?_
        refine tt_getR (q := 32) hc fl_X4_12 (by first | assumption | exact ⟨by decide, _, rfl, rfl⟩) dX4_reach_29 rfl ?_
        refine tt_getI (q := 35) hc fl_X4_48 (by first | assumption | exact ⟨by decide, _, rfl, _, rfl⟩) dX4_reach_32 rfl ?_
        rw [hR.2.1]
        refine tt_iconst (v := nI 1) (q := 36) hc rfl dX4_reach_35 rfl ?_
        first | (with_reducible refine chk2 ?_; refine tt_iaddN (q := 37) hc dX4_reach_36 rfl ?_) | refine tt_iadd (q := 37) hc dX4_reach_36 rfl ?_
        first | (with_reducible refine chk2 ?_; refine tt_imulN (q := 38) hc dX4_reach_37 rfl ?_) | refine tt_imul (q := 38) hc dX4_reach_37 rfl ?_
        first | (with_reducible refine chk2 ?_; refine tt_icleN (t := 43) (q := 41) hc (by omega) (by omega) dX4_reach_38 rfl rfl (fun c_38 => ?_) (fun c_38 => ?_)) | refine tt_icle (t := 43) (q := 41) hc dX4_reach_38 rfl rfl (fun c_38 => ?_) (fun c_38 => ?_)
        · refine tt_iconst (v := nI 0) (q := 44) hc rfl dX4_reach_43 rfl ?_
          refine tt_is5 (q := 46) hc dX4_reach_44 rfl (by decide) ?_
          refine tt_iconst (v := nI 1) (q := 47) hc rfl dX4_reach_46 rfl ?_
          refine tt_is6 (q := 49) hc dX4_reach_47 rfl (by decide) ?_
          rw [if_pos (by omega)] at hQ
          exact L 255 1 0 μ _ _ _ rfl (by decide) frm.rf (fun _ _ => rfl) hR hQ
        · refine tt_iconst (v := nI 0) (q := 42) hc rfl dX4_reach_41 rfl ?_
          refine tt_retz hX rfl (by first | decide | exact bI_01 _) dX4_reach_42 ?_
          rw [if_neg (by omega)] at hQ
          exact hQ μ frm.rf (fun _ _ => rfl) (fun _ => hR) (fun p z => by cases z)
      · omega
/-- CHAIN as the class looks for it: the numbers of the flips -/
def chnL (K : Nat) (G : Nat → Bool) (lst : Nat) (B : Nat → Bool) : Nat → Nat → Option (List Nat)
  | 0, _ => none
  | m + 1, n => match rch K G lst n B with
    | some p => some p
    | none => chnL K G lst B m (n + 1)
def chn (K : Nat) (G : Nat → Bool) (lst : Nat) (B : Nat → Bool) : Option (List Nat) := chnL K G lst B 4 0
theorem rlp_len {rec_ : (Nat → Bool) → Option (List Nat)} {K : Nat} {G : Nat → Bool} {lst n : Nat} {B : Nat → Bool} (h : ∀ B p, rec_ B = some p → p.length = n) : ∀ m a num p, rlp rec_ K G lst n B m a num = some p → p.length = n + 1
  | 0, _, _, _, z => by cases z
  | m + 1, a, num, p, z => by
    rw [rlp] at z
    split at z
    · exact rlp_len h m _ _ p z
    · split at z
      · split at z
        · rename_i p' e
          cases z
          rw [List.length_cons, h _ _ e]
        · exact rlp_len h m _ _ p z
      · exact rlp_len h m _ _ p z
theorem rch_len {K : Nat} {G : Nat → Bool} {lst : Nat} (n : Nat) : ∀ B p, rch K G lst n B = some p → p.length = n := by
  induction n with
  | zero =>
    intro B p z
    rw [rch] at z
    by_cases hg : gapN B G = 0
    · rw [if_pos hg] at z
      rw [← Option.some.inj z]
      rfl
    · rw [if_neg hg] at z
      cases z
  | succ n ih =>
    intro B p z
    rw [rch] at z
    by_cases hg : gapN B G ≤ (n + 1) * (K + 1)
    · rw [if_pos hg] at z
      exact rlp_len ih _ _ _ _ z
    · rw [if_neg hg] at z
      cases z
def lnI : Option (List Nat) → Int32
  | some p => nI p.length
  | none => -5
set_option maxHeartbeats 16000000 in
theorem c_X4_fewest {l : Launch} {jg K lst : Nat} (hj : jg < 16) (hj3 : jg ≠ 3) (h0 : 0 ≠ jg) {B G : Nat → Bool} (hl2 : lst ≤ 2) {μ : Mem} {Q : Option Value → Mem → Prop} (hR : RC μ 0 K B) (hG : RC μ jg K G) (hQ : ∀ μ', frm [11, 12, 46, 47] μ μ' → (∀ p, chn K G lst B = some p → ∀ i x, p[i]? = some x → μ' 12 i = nI x) → Q (some (.int (lnI (chn K G lst B)))) μ') : CC l 7 mX4_fewest [.ref 11, .ref 40, .ref (40 + 2 * jg), .int (nI lst)] μ Q := by
  refine CC.of (M := mX4_fewest) (by decide +kernel) rfl (fun v h => by simp at h; rcases h with rfl | rfl | rfl | rfl <;> rfl) (Nat.le_of_ble_eq_true rfl) (fun X hX => ?_)
  have hc := hX.cx
  have oB : HO (40 + 2 * 3) 0 := ⟨by omega, _, rfl⟩
  have d11 := HD11
  have hgl := gap_le B G
  have L : ∀ (m n : Nat) (ν : Mem), n + m = 4 → frm [11, 12, 46, 47] μ ν → RC ν 3 K B → RC ν jg K G → ν 11 2 = nI (40 + 2 * jg) → ν 11 3 = nI lst → (∀ μ', frm [11, 12, 46, 47] μ μ' → (∀ p, chnL K G lst B m n = some p → ∀ i x, p[i]? = some x → μ' 12 i = nI x) → Q (some (.int (lnI (chnL K G lst B m n)))) μ') → TT X 27 [.ref 11, .ref 40, .ref (40 + 2 * jg), .int (nI lst), .int (nI (gapN B G)), .int (nI n)] [] ν := by
    intro m
    induction m with
    | zero =>
      intro n ν hn hf hR hG hg hl h
      refine tt_il5 (q := 29) hc dX4_fewest_27 rfl ?_
      refine tt_iconst (v := nI 3) (q := 30) hc rfl dX4_fewest_29 rfl ?_
      first | (with_reducible refine chk2 ?_; refine tt_icgtN (t := 54) (q := 33) hc (by omega) (by omega) dX4_fewest_30 rfl rfl (fun c_30 => ?_) (fun c_30 => ?_)) | refine tt_icgt (t := 54) (q := 33) hc dX4_fewest_30 rfl rfl (fun c_30 => ?_) (fun c_30 => ?_)
      · refine tt_bipush (v := -5) (q := 56) hc (by decide) dX4_fewest_54 rfl ?_
        refine tt_reti hX rfl dX4_fewest_56 ?_
        exact h ν hf (fun p z => by cases z)
      · omega
    | succ m ih =>
      intro n ν hn hf hR hG hg hl h
      rw [chnL] at h
      generalize hr : rch K G lst n B = r at h
      refine tt_il5 (q := 29) hc dX4_fewest_27 rfl ?_
      refine tt_iconst (v := nI 3) (q := 30) hc rfl dX4_fewest_29 rfl ?_
      first | (with_reducible refine chk2 ?_; refine tt_icgtN (t := 54) (q := 33) hc (by omega) (by omega) dX4_fewest_30 rfl rfl (fun c_30 => ?_) (fun c_30 => ?_)) | refine tt_icgt (t := 54) (q := 33) hc dX4_fewest_30 rfl rfl (fun c_30 => ?_) (fun c_30 => ?_)
      · omega
      · refine tt_al0 (q := 34) hc dX4_fewest_33 rfl ?_
        refine tt_il5 (q := 36) hc dX4_fewest_34 rfl ?_
        refine tt_iconst (v := nI 0) (q := 37) hc rfl dX4_fewest_36 rfl ?_
        refine tt_il4 (q := 39) hc dX4_fewest_37 rfl ?_
        refine tt_cS4 (q := 42) (d' := n + 3) hc (by first | decide | omega) kmX4_reach ml_X4_37 (Nat.le_of_ble_eq_true rfl) dX4_fewest_39 rfl ?_
        refine c_X4_reach hj hj3 hl2 n n 0 B ν _ (by omega) (by omega) hR hG hg hl (fun ν2 hf2 _ hN2 hS2 => ?_)
        rw [hr] at hN2 hS2 ⊢
        dsimp only [Option.toList, List.nil_append, List.cons_append]
        first | (with_reducible refine chkb ?_; refine tt_ifeqB (t := 48) (q := 45) hc dX4_fewest_42 rfl rfl (fun c_42 => ?_) (fun c_42 => ?_)) | (with_reducible refine chk1 ?_; refine tt_ifeqN (t := 48) (q := 45) hc (by omega) dX4_fewest_42 rfl rfl (fun c_42 => ?_) (fun c_42 => ?_)) | refine tt_ifeq (t := 48) (q := 45) hc dX4_fewest_42 rfl rfl (fun c_42 => ?_) (fun c_42 => ?_)
        · first | refine tt_inc5 (q := 51) hc dX4_fewest_48 rfl (by decide) (incN _) ?_ | refine tt_inc5 (q := 51) hc dX4_fewest_48 rfl (by decide) rfl ?_
          refine tt_goto (t := 27) hc dX4_fewest_51 rfl ?_
          have rn : r = none := by cases r; rfl; cases c_42
          subst rn
          exact ih (n + 1) ν2 (by omega) (hf.tr (hf2.mono (by simp))) (hN2 rfl) (hG.frm hf2 (by simp; omega) (by simp; omega)) (by rw [hf2 11 (by decide)]; exact hg) (by rw [hf2 11 (by decide)]; exact hl) h
        · refine tt_il5 (q := 47) hc dX4_fewest_45 rfl ?_
          refine tt_reti hX rfl dX4_fewest_47 ?_
          obtain ⟨p, rfl⟩ := Option.isSome_iff_exists.mp c_42
          have h2 := h ν2 (hf.tr (hf2.mono (by simp))) (fun p' z i x q => by cases z; have := hS2 p rfl i x q; rw [Nat.zero_add] at this; exact this)
          rw [lnI, rch_len _ _ _ hr] at h2
          exact h2
  refine tt_al0 (q := 1) hc dX4_fewest_0 rfl ?_
  refine tt_getR (q := 4) hc fl_X4_12 (by first | assumption | exact ⟨by decide, _, rfl, rfl⟩) dX4_fewest_1 rfl ?_
  refine tt_al1 (q := 5) hc dX4_fewest_4 rfl ?_
  refine tt_cV1 (q := 8) (d' := 1) (ci := 0) hc (by first | decide | omega) kmX0_copyOf ml_X4_22 (by first | assumption | exact ⟨by decide, _, rfl⟩) rfl (Nat.le_of_ble_eq_true rfl) dX4_fewest_5 rfl ?_
  refine c_X0_copyOf (j := 3) (j2 := 0) (by decide) (by decide) (by decide) hR (fun ν hf hR3 => ?_)
  dsimp only [Option.toList, List.nil_append, List.cons_append]
  refine tt_al0 (q := 9) hc dX4_fewest_8 rfl ?_
  refine tt_al2 (q := 10) hc dX4_fewest_9 rfl ?_
  refine tt_putD (q := 13) hc fp_X4_26 d11 (by omega) dX4_fewest_10 rfl ?_
  refine tt_al0 (q := 14) hc dX4_fewest_13 rfl ?_
  refine tt_il3 (q := 15) hc dX4_fewest_14 rfl ?_
  refine tt_putI (q := 18) hc fp_X4_29 (by first | assumption | exact ⟨by decide, _, rfl, _, rfl⟩) dX4_fewest_15 rfl ?_
  refine tt_al0 (q := 19) hc dX4_fewest_18 rfl ?_
  refine tt_cV0 (q := 22) (d' := 2) (ci := 4) hc (by first | decide | omega) kmX4_gap ml_X4_33 (by first | assumption | exact ⟨by decide, _, rfl⟩) rfl (Nat.le_of_ble_eq_true rfl) dX4_fewest_19 rfl ?_
  have hfa : frm [11] ν (mset (mset ν 11 (upd (ν 11) 2 (nI (40 + 2 * jg)))) 11 (upd (mset ν 11 (upd (ν 11) 2 (nI (40 + 2 * jg))) 11) 3 (nI lst))) := frm.set.tr frm.set
  have hR3' := hR3.frm hfa (by simp) (by simp)
  have hGν := hG.frm hf (by simp; omega) (by simp; omega)
  have hGν' := hGν.frm hfa (by simp; omega) (by simp; omega)
  have e2 : (mset (mset ν 11 (upd (ν 11) 2 (nI (40 + 2 * jg)))) 11 (upd (mset ν 11 (upd (ν 11) 2 (nI (40 + 2 * jg))) 11) 3 (nI lst))) 11 2 = nI (40 + 2 * jg) := by rw [mset_eq, pk_un (by decide), mset_eq, pk_us]
  have e3 : (mset (mset ν 11 (upd (ν 11) 2 (nI (40 + 2 * jg)))) 11 (upd (mset ν 11 (upd (ν 11) 2 (nI (40 + 2 * jg))) 11) 3 (nI lst))) 11 3 = nI lst := by rw [mset_eq, pk_us]
  refine c_X4_gap hj hR3' hGν' e2 ?_
  dsimp only [Option.toList, List.nil_append, List.cons_append]
  refine tt_is4 (q := 24) hc dX4_fewest_22 rfl (by decide) ?_
  refine tt_iconst (v := nI 0) (q := 25) hc rfl dX4_fewest_24 rfl ?_
  refine tt_is5 (q := 27) hc dX4_fewest_25 rfl (by decide) ?_
  exact L 4 0 _ rfl ((hf.mono (by simp)).tr (hfa.mono (by simp))) hR3' hGν' e2 e3 hQ
