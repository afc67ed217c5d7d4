/-! HEAP: making, reading -/
def togsP (pts : Nat) : Nat → Nat → (Nat → Bool) → (Nat → Bool)
  | 0, _, B => B
  | n + 1, p, B => togsP pts n (p + 1) (if (pts / 2 ^ p) &&& 1 = 1 then tog B (pts ^^^ (pts &&& 2 ^ p)) else B)
def togA (B : Nat → Bool) (pts : Nat) : Nat → Bool := togsP pts 8 0 B
theorem less1 : ∀ pts, pts < 256 → ∀ p, p < 8 → (pts / 2 ^ p) &&& 1 = 1 → pop (pts ^^^ (pts &&& 2 ^ p)) + 1 = pop pts ∧ pts ^^^ (pts &&& 2 ^ p) < 256 := by decide +kernel
set_option maxHeartbeats 4000000 in
theorem c_X0_toggleAround {l : Launch} {j K pts : Nat} (hj : j < 16) {B : Nat → Bool} {μ : Mem} {Q : Option Value → Mem → Prop} (hR : RC μ j K B) (hb : pts < 256) (hp : pop pts = K + 1) (hQ : ∀ μ', frm [40 + 2 * j + 1] μ μ' → RC μ' j K (togA B pts) → Q none μ') : CC l 1 mX0_toggleAround [.ref (40 + 2 * j), .int (nI pts)] μ Q := by
  refine CC.of (M := mX0_toggleAround) (by decide +kernel) rfl (fun v h => by simp at h; rcases h with rfl | rfl <;> rfl) (Nat.le_of_ble_eq_true rfl) (fun X hX => ?_)
  have hc := hX.cx
  have ho : HO (40 + 2 * j) 0 := ⟨by omega, _, sh_ho hj⟩
  have L : ∀ (n p : Nat) (B : Nat → Bool) (ν : Mem), p + n = 8 → RC ν j K B → (∀ ν', frm [40 + 2 * j + 1] ν ν' → RC ν' j K (togsP pts n p B) → Q none ν') → TT X 2 [.ref (40 + 2 * j), .int (nI pts), .int (nI p)] [] ν := by
    intro n
    induction n with
    | zero =>
      intro p B ν hp8 hR h
      refine tt_il2 (q := 3) hc dX0_toggleAround_2 rfl ?_
      refine tt_bipush (v := nI 8) (q := 5) hc (by decide) dX0_toggleAround_3 rfl ?_
      first | (with_reducible refine chk2 ?_; refine tt_icgeN (t := 34) (q := 8) hc (by omega) (by omega) dX0_toggleAround_5 rfl rfl (fun c_5 => ?_) (fun c_5 => ?_)) | refine tt_icge (t := 34) (q := 8) hc dX0_toggleAround_5 rfl rfl (fun c_5 => ?_) (fun c_5 => ?_)
      · refine tt_retv hX rfl dX0_toggleAround_34 ?_
        exact h ν frm.rf hR
      · omega
    | succ n ih =>
      intro p B ν hp8 hR h
      have h1 : (pts / 2 ^ p) &&& 1 ≤ 1 := Nat.and_le_right
      have h2 := fun z => less1 pts hb p (by omega) z
      refine tt_il2 (q := 3) hc dX0_toggleAround_2 rfl ?_
      refine tt_bipush (v := nI 8) (q := 5) hc (by decide) dX0_toggleAround_3 rfl ?_
      first | (with_reducible refine chk2 ?_; refine tt_icgeN (t := 34) (q := 8) hc (by omega) (by omega) dX0_toggleAround_5 rfl rfl (fun c_5 => ?_) (fun c_5 => ?_)) | refine tt_icge (t := 34) (q := 8) hc dX0_toggleAround_5 rfl rfl (fun c_5 => ?_) (fun c_5 => ?_)
      · omega
      · refine tt_il1 (q := 9) hc dX0_toggleAround_8 rfl ?_
        refine tt_il2 (q := 10) hc dX0_toggleAround_9 rfl ?_
        first | (with_reducible refine chk2 ?_; refine tt_ishrN (q := 11) hc (by omega) (by omega) dX0_toggleAround_10 rfl ?_) | refine tt_ishr (q := 11) hc dX0_toggleAround_10 rfl ?_
        refine tt_iconst (v := nI 1) (q := 12) hc rfl dX0_toggleAround_11 rfl ?_
        first | (with_reducible refine chk2 ?_; refine tt_iandN (q := 13) hc dX0_toggleAround_12 rfl ?_) | (with_reducible refine chkan ?_; refine tt_iandnN (q := 13) hc dX0_toggleAround_12 rfl ?_) | (with_reducible refine chkna ?_; refine tt_inandN (q := 13) hc dX0_toggleAround_12 rfl ?_) | refine tt_iand (q := 13) hc dX0_toggleAround_12 rfl ?_
        refine tt_iconst (v := nI 1) (q := 14) hc rfl dX0_toggleAround_13 rfl ?_
        first | (with_reducible refine chk2 ?_; refine tt_icneN (t := 28) (q := 17) hc (by omega) (by omega) dX0_toggleAround_14 rfl rfl (fun c_14 => ?_) (fun c_14 => ?_)) | refine tt_icne (t := 28) (q := 17) hc dX0_toggleAround_14 rfl rfl (fun c_14 => ?_) (fun c_14 => ?_)
        · first | refine tt_inc2 (q := 31) hc dX0_toggleAround_28 rfl (by decide) (incN _) ?_ | refine tt_inc2 (q := 31) hc dX0_toggleAround_28 rfl (by decide) rfl ?_
          refine tt_goto (t := 2) hc dX0_toggleAround_31 rfl ?_
          first
          | exact ih _ _ _ (by omega) hR (fun ν' hf' hR'' => h ν' hf' (by rw [togsP, if_neg c_14]; exact hR''))
          | exact ih _ _ _ (by omega) hR' (fun ν' hf' hR'' => h ν' (hf.tr hf') (by rw [togsP, if_pos c_14]; exact hR''))
        · refine tt_al0 (q := 18) hc dX0_toggleAround_17 rfl ?_
          refine tt_il1 (q := 19) hc dX0_toggleAround_18 rfl ?_
          refine tt_iconst (v := nI 1) (q := 20) hc rfl dX0_toggleAround_19 rfl ?_
          refine tt_il2 (q := 21) hc dX0_toggleAround_20 rfl ?_
          first | (with_reducible refine chks ?_; refine tt_ishl1 (q := 22) hc (by omega) dX0_toggleAround_21 rfl ?_) | (with_reducible refine chk2 ?_; refine tt_ishlN (q := 22) hc (by omega) (by omega) dX0_toggleAround_21 rfl ?_) | refine tt_ishl (q := 22) hc dX0_toggleAround_21 rfl ?_
          refine tt_iconst (v := -1) (q := 23) hc rfl dX0_toggleAround_22 rfl ?_
          first | (with_reducible refine chk2 ?_; refine tt_ixorN (q := 24) hc dX0_toggleAround_23 rfl ?_) | refine tt_ixor (q := 24) hc dX0_toggleAround_23 rfl ?_
          first | (with_reducible refine chk2 ?_; refine tt_iandN (q := 25) hc dX0_toggleAround_24 rfl ?_) | (with_reducible refine chkan ?_; refine tt_iandnN (q := 25) hc dX0_toggleAround_24 rfl ?_) | (with_reducible refine chkna ?_; refine tt_inandN (q := 25) hc dX0_toggleAround_24 rfl ?_) | refine tt_iand (q := 25) hc dX0_toggleAround_24 rfl ?_
          refine tt_cV1 (q := 28) (d' := 0) (ci := 0) hc (by decide) kmX0_toggle ml_X0_31 (by first | assumption | exact ⟨by decide, _, rfl⟩) rfl (Nat.le_of_ble_eq_true rfl) dX0_toggleAround_25 rfl ?_
          refine c_X0_toggle hj hR (h2 c_14).2 (by have := (h2 c_14).1; omega) (fun ν' hf hR' => ?_)
          dsimp only [Option.toList, List.nil_append, List.cons_append]
          first | refine tt_inc2 (q := 31) hc dX0_toggleAround_28 rfl (by decide) (incN _) ?_ | refine tt_inc2 (q := 31) hc dX0_toggleAround_28 rfl (by decide) rfl ?_
          refine tt_goto (t := 2) hc dX0_toggleAround_31 rfl ?_
          first
          | exact ih _ _ _ (by omega) hR (fun ν' hf' hR'' => h ν' hf' (by rw [togsP, if_neg c_14]; exact hR''))
          | exact ih _ _ _ (by omega) hR' (fun ν' hf' hR'' => h ν' (hf.tr hf') (by rw [togsP, if_pos c_14]; exact hR''))
  refine tt_iconst (v := nI 0) (q := 1) hc rfl dX0_toggleAround_0 rfl ?_
  refine tt_is2 (q := 2) hc dX0_toggleAround_1 rfl (by decide) ?_
  exact L 8 0 B μ rfl hR hQ
def arcN (K f : Nat) : Nat := (((2 ^ K - 1) * 2 ^ f) ||| ((2 ^ K - 1) * 2 ^ f) / 2 ^ 8) &&& 255
theorem c_X0_arc {l : Launch} {j K f : Nat} (hj : j < 16) {B : Nat → Bool} {μ : Mem} {Q : Option Value → Mem → Prop} (hR : RC μ j K B) (hQ : Q (some (.int (nI (arcN K f)))) μ) (hf : f < 8 := by omega) : CC l 0 mX0_arc [.ref (40 + 2 * j), .int (nI f)] μ Q := by
  refine CC.of (M := mX0_arc) (by decide +kernel) rfl (fun v h => by simp at h; rcases h with rfl | rfl <;> rfl) (Nat.le_of_ble_eq_true rfl) (fun X hX => ?_)
  have hc := hX.cx
  have hk : HI (40 + 2 * j) 0 0 := ⟨by omega, _, sh_ho hj, _, rfl⟩
  have hK := hR.1.1
  have h2K : 2 ^ K ≤ 16 := by rcases hK with rfl | rfl <;> decide
  have h2K1 : 1 ≤ 2 ^ K := Nat.two_pow_pos K
  have h2f : 2 ^ f ≤ 128 := (Nat.pow_le_pow_right (by decide) (show f ≤ 7 by omega) : 2 ^ f ≤ 2 ^ 7)
  have hm : (2 ^ K - 1) * 2 ^ f ≤ 16 * 128 := Nat.mul_le_mul (by omega) h2f
  refine tt_iconst (v := nI 1) (q := 1) hc rfl dX0_arc_0 rfl ?_
  refine tt_al0 (q := 2) hc dX0_arc_1 rfl ?_
  refine tt_getI (q := 5) hc fl_X0_9 (by first | assumption | exact ⟨by decide, _, rfl, _, rfl⟩) dX0_arc_2 rfl ?_
  rw [hR.2.1]
  first | (with_reducible refine chks ?_; refine tt_ishl1 (q := 6) hc (by omega) dX0_arc_5 rfl ?_) | (with_reducible refine chk2 ?_; refine tt_ishlN (q := 6) hc (by omega) (by omega) dX0_arc_5 rfl ?_) | refine tt_ishl (q := 6) hc dX0_arc_5 rfl ?_
  refine tt_iconst (v := nI 1) (q := 7) hc rfl dX0_arc_6 rfl ?_
  first | (with_reducible refine chk2 ?_; refine tt_isubN (q := 8) hc (by omega) dX0_arc_7 rfl ?_) | refine tt_isub (q := 8) hc dX0_arc_7 rfl ?_
  refine tt_il1 (q := 9) hc dX0_arc_8 rfl ?_
  first | (with_reducible refine chks ?_; refine tt_ishl1 (q := 10) hc (by omega) dX0_arc_9 rfl ?_) | (with_reducible refine chk2 ?_; refine tt_ishlN (q := 10) hc (by omega) (by omega) dX0_arc_9 rfl ?_) | refine tt_ishl (q := 10) hc dX0_arc_9 rfl ?_
  refine tt_is2 (q := 11) hc dX0_arc_10 rfl (by decide) ?_
  refine tt_il2 (q := 12) hc dX0_arc_11 rfl ?_
  refine tt_il2 (q := 13) hc dX0_arc_12 rfl ?_
  refine tt_bipush (v := nI 8) (q := 15) hc (by decide) dX0_arc_13 rfl ?_
  first | (with_reducible refine chk2 ?_; refine tt_ishrN (q := 16) hc (by omega) (by omega) dX0_arc_15 rfl ?_) | refine tt_ishr (q := 16) hc dX0_arc_15 rfl ?_
  first | (with_reducible refine chk2 ?_; refine tt_iorN (q := 17) hc dX0_arc_16 rfl ?_) | refine tt_ior (q := 17) hc dX0_arc_16 rfl ?_
  refine tt_sipush (v := nI 255) (q := 20) hc (by decide) dX0_arc_17 rfl ?_
  first | (with_reducible refine chk2 ?_; refine tt_iandN (q := 21) hc dX0_arc_20 rfl ?_) | (with_reducible refine chkan ?_; refine tt_iandnN (q := 21) hc dX0_arc_20 rfl ?_) | (with_reducible refine chkna ?_; refine tt_inandN (q := 21) hc dX0_arc_20 rfl ?_) | refine tt_iand (q := 21) hc dX0_arc_20 rfl ?_
  refine tt_reti hX rfl dX0_arc_21 ?_
  exact hQ
theorem arc_ok : ∀ K, K < 5 → 3 ≤ K → ∀ f, f < 8 → arcN K f < 256 ∧ pop (arcN K f) = K := by decide +kernel
def arcsB (K : Nat) : Nat → Nat → (Nat → Bool) → (Nat → Bool)
  | 0, _, B => B
  | n + 1, i, B => arcsB K n (i + 1) (tog B (arcN K i))
set_option maxHeartbeats 4000000 in
theorem c_X0_addArcs {l : Launch} {j K many : Nat} (hj : j < 16) {B : Nat → Bool} {μ : Mem} {Q : Option Value → Mem → Prop} (hR : RC μ j K B) (hm : many ≤ 8) (hQ : ∀ μ', frm [40 + 2 * j + 1] μ μ' → RC μ' j K (arcsB K many 0 B) → Q none μ') : CC l 1 mX0_addArcs [.ref (40 + 2 * j), .int (nI many)] μ Q := by
  refine CC.of (M := mX0_addArcs) (by decide +kernel) rfl (fun v h => by simp at h; rcases h with rfl | rfl <;> rfl) (Nat.le_of_ble_eq_true rfl) (fun X hX => ?_)
  have hc := hX.cx
  have ho : HO (40 + 2 * j) 0 := ⟨by omega, _, sh_ho hj⟩
  have hK := hR.1.1
  have L : ∀ (n i : Nat) (B : Nat → Bool) (ν : Mem), i + n = many → RC ν j K B → (∀ ν', frm [40 + 2 * j + 1] ν ν' → RC ν' j K (arcsB K n i B) → Q none ν') → TT X 2 [.ref (40 + 2 * j), .int (nI many), .int (nI i)] [] ν := by
    intro n
    induction n with
    | zero =>
      intro i B ν hi hR h
      refine tt_il2 (q := 3) hc dX0_addArcs_2 rfl ?_
      refine tt_il1 (q := 4) hc dX0_addArcs_3 rfl ?_
      first | (with_reducible refine chk2 ?_; refine tt_icgeN (t := 22) (q := 7) hc (by omega) (by omega) dX0_addArcs_4 rfl rfl (fun c_4 => ?_) (fun c_4 => ?_)) | refine tt_icge (t := 22) (q := 7) hc dX0_addArcs_4 rfl rfl (fun c_4 => ?_) (fun c_4 => ?_)
      · refine tt_retv hX rfl dX0_addArcs_22 ?_
        exact h ν frm.rf hR
      · omega
    | succ n ih =>
      intro i B ν hi hR h
      have ha := arc_ok K (by omega) (by omega) i (by omega)
      refine tt_il2 (q := 3) hc dX0_addArcs_2 rfl ?_
      refine tt_il1 (q := 4) hc dX0_addArcs_3 rfl ?_
      first | (with_reducible refine chk2 ?_; refine tt_icgeN (t := 22) (q := 7) hc (by omega) (by omega) dX0_addArcs_4 rfl rfl (fun c_4 => ?_) (fun c_4 => ?_)) | refine tt_icge (t := 22) (q := 7) hc dX0_addArcs_4 rfl rfl (fun c_4 => ?_) (fun c_4 => ?_)
      · omega
      · refine tt_al0 (q := 8) hc dX0_addArcs_7 rfl ?_
        refine tt_al0 (q := 9) hc dX0_addArcs_8 rfl ?_
        refine tt_il2 (q := 10) hc dX0_addArcs_9 rfl ?_
        refine tt_cV1 (q := 13) (d' := 0) (ci := 0) hc (by decide) kmX0_arc ml_X0_38 (by first | assumption | exact ⟨by decide, _, rfl⟩) rfl (Nat.le_of_ble_eq_true rfl) dX0_addArcs_10 rfl ?_
        refine c_X0_arc hj hR ?_
        dsimp only [Option.toList, List.nil_append, List.cons_append]
        refine tt_cV1 (q := 16) (d' := 0) (ci := 0) hc (by decide) kmX0_toggle ml_X0_31 (by first | assumption | exact ⟨by decide, _, rfl⟩) rfl (Nat.le_of_ble_eq_true rfl) dX0_addArcs_13 rfl ?_
        refine c_X0_toggle hj hR ha.1 ha.2 (fun ν' hf hR' => ?_)
        dsimp only [Option.toList, List.nil_append, List.cons_append]
        first | refine tt_inc2 (q := 19) hc dX0_addArcs_16 rfl (by decide) (incN _) ?_ | refine tt_inc2 (q := 19) hc dX0_addArcs_16 rfl (by decide) rfl ?_
        refine tt_goto (t := 2) hc dX0_addArcs_19 rfl ?_
        exact ih _ _ _ (by omega) hR' (fun ν' hf' hR'' => h ν' (hf.tr hf') hR'')
  refine tt_iconst (v := nI 0) (q := 1) hc rfl dX0_addArcs_0 rfl ?_
  refine tt_is2 (q := 2) hc dX0_addArcs_1 rfl (by decide) ?_
  exact L many 0 B μ (by omega) hR hQ
def crs (c : Nat) : Nat → Nat → Nat → Nat
  | 0, _, s => s
  | n + 1, p, s => crs c n (p + 1) (s ||| 2 ^ (2 * p + ((c / 2 ^ p) &&& 1)))
def crsB (K : Nat) : Nat → Nat → (Nat → Bool) → (Nat → Bool)
  | 0, _, B => B
  | n + 1, c, B => crsB K n (c + 1) (tog B (crs c K 0 0))
theorem crs_ok : ∀ K, K < 5 → 3 ≤ K → ∀ c, c < 2 ^ K → crs c K 0 0 < 256 ∧ pop (crs c K 0 0) = K := by decide +kernel
set_option maxHeartbeats 4000000 in
theorem c_X0_addCross {l : Launch} {j K : Nat} (hj : j < 16) {B : Nat → Bool} {μ : Mem} {Q : Option Value → Mem → Prop} (hR : RC μ j K B) (hQ : ∀ μ', frm [40 + 2 * j + 1] μ μ' → RC μ' j K (crsB K (2 ^ K) 0 B) → Q none μ') : CC l 1 mX0_addCross [.ref (40 + 2 * j)] μ Q := by
  refine CC.of (M := mX0_addCross) (by decide +kernel) rfl (fun v h => by simp at h; subst h; rfl) (Nat.le_of_ble_eq_true rfl) (fun X hX => ?_)
  have hc := hX.cx
  have ho : HO (40 + 2 * j) 0 := ⟨by omega, _, sh_ho hj⟩
  have hk : HI (40 + 2 * j) 0 0 := ⟨by omega, _, sh_ho hj, _, rfl⟩
  have hK := hR.1.1
  have h2K : 2 ^ K ≤ 16 := by rcases hK with rfl | rfl <;> decide
  have L2 : ∀ (c : Nat) (ν : Mem) (T : Nat → Prop), ν (40 + 2 * j) 0 = nI K → c < 2 ^ K → (∀ s, s = crs c K 0 0 → TT X 44 [.ref (40 + 2 * j), .int (nI c), .int (nI s), .int (nI K)] [] ν) → ∀ (n p s : Nat), p + n = K → crs c n p s = crs c K 0 0 → TT X 16 [.ref (40 + 2 * j), .int (nI c), .int (nI s), .int (nI p)] [] ν := by
    intro c ν T hk0 hcK h n
    induction n with
    | zero =>
      intro p s hp hs
      refine tt_il3 (q := 17) hc dX0_addCross_16 rfl ?_
      refine tt_al0 (q := 18) hc dX0_addCross_17 rfl ?_
      refine tt_getI (q := 21) hc fl_X0_9 (by first | assumption | exact ⟨by decide, _, rfl, _, rfl⟩) dX0_addCross_18 rfl ?_
      rw [hk0]
      first | (with_reducible refine chk2 ?_; refine tt_icgeN (t := 44) (q := 24) hc (by omega) (by omega) dX0_addCross_21 rfl rfl (fun c_21 => ?_) (fun c_21 => ?_)) | refine tt_icge (t := 44) (q := 24) hc dX0_addCross_21 rfl rfl (fun c_21 => ?_) (fun c_21 => ?_)
      · exact (show p = K by omega) ▸ h s hs
      · omega
    | succ n ih =>
      intro p s hp hs
      have h1 : (c / 2 ^ p) &&& 1 ≤ 1 := Nat.and_le_right
      refine tt_il3 (q := 17) hc dX0_addCross_16 rfl ?_
      refine tt_al0 (q := 18) hc dX0_addCross_17 rfl ?_
      refine tt_getI (q := 21) hc fl_X0_9 (by first | assumption | exact ⟨by decide, _, rfl, _, rfl⟩) dX0_addCross_18 rfl ?_
      rw [hk0]
      first | (with_reducible refine chk2 ?_; refine tt_icgeN (t := 44) (q := 24) hc (by omega) (by omega) dX0_addCross_21 rfl rfl (fun c_21 => ?_) (fun c_21 => ?_)) | refine tt_icge (t := 44) (q := 24) hc dX0_addCross_21 rfl rfl (fun c_21 => ?_) (fun c_21 => ?_)
      · omega
      · refine tt_il2 (q := 25) hc dX0_addCross_24 rfl ?_
        refine tt_iconst (v := nI 1) (q := 26) hc rfl dX0_addCross_25 rfl ?_
        refine tt_iconst (v := nI 2) (q := 27) hc rfl dX0_addCross_26 rfl ?_
        refine tt_il3 (q := 28) hc dX0_addCross_27 rfl ?_
        first | (with_reducible refine chk2 ?_; refine tt_imulN (q := 29) hc dX0_addCross_28 rfl ?_) | refine tt_imul (q := 29) hc dX0_addCross_28 rfl ?_
        refine tt_il1 (q := 30) hc dX0_addCross_29 rfl ?_
        refine tt_il3 (q := 31) hc dX0_addCross_30 rfl ?_
        first | (with_reducible refine chk2 ?_; refine tt_ishrN (q := 32) hc (by omega) (by omega) dX0_addCross_31 rfl ?_) | refine tt_ishr (q := 32) hc dX0_addCross_31 rfl ?_
        refine tt_iconst (v := nI 1) (q := 33) hc rfl dX0_addCross_32 rfl ?_
        first | (with_reducible refine chk2 ?_; refine tt_iandN (q := 34) hc dX0_addCross_33 rfl ?_) | (with_reducible refine chkan ?_; refine tt_iandnN (q := 34) hc dX0_addCross_33 rfl ?_) | (with_reducible refine chkna ?_; refine tt_inandN (q := 34) hc dX0_addCross_33 rfl ?_) | refine tt_iand (q := 34) hc dX0_addCross_33 rfl ?_
        first | (with_reducible refine chk2 ?_; refine tt_iaddN (q := 35) hc dX0_addCross_34 rfl ?_) | refine tt_iadd (q := 35) hc dX0_addCross_34 rfl ?_
        first | (with_reducible refine chks ?_; refine tt_ishl1 (q := 36) hc (by omega) dX0_addCross_35 rfl ?_) | (with_reducible refine chk2 ?_; refine tt_ishlN (q := 36) hc (by omega) (by omega) dX0_addCross_35 rfl ?_) | refine tt_ishl (q := 36) hc dX0_addCross_35 rfl ?_
        first | (with_reducible refine chk2 ?_; refine tt_iorN (q := 37) hc dX0_addCross_36 rfl ?_) | refine tt_ior (q := 37) hc dX0_addCross_36 rfl ?_
        refine tt_is2 (q := 38) hc dX0_addCross_37 rfl (by decide) ?_
        first | refine tt_inc3 (q := 41) hc dX0_addCross_38 rfl (by decide) (incN _) ?_ | refine tt_inc3 (q := 41) hc dX0_addCross_38 rfl (by decide) rfl ?_
        refine tt_goto (t := 16) hc dX0_addCross_41 rfl ?_
        exact ih (p + 1) _ (by omega) hs
  have L : ∀ (n c : Nat) (B : Nat → Bool) (ν : Mem) (w3 w2 : Value), c + n = 2 ^ K → RC ν j K B → (∀ ν', frm [40 + 2 * j + 1] ν ν' → RC ν' j K (crsB K n c B) → Q none ν') → TT X 2 [.ref (40 + 2 * j), .int (nI c), w2, w3] [] ν := by
    intro n
    induction n with
    | zero =>
      intro c B ν w3 w2 hi hR h
      refine tt_il1 (q := 3) hc dX0_addCross_2 rfl ?_
      refine tt_iconst (v := nI 1) (q := 4) hc rfl dX0_addCross_3 rfl ?_
      refine tt_al0 (q := 5) hc dX0_addCross_4 rfl ?_
      refine tt_getI (q := 8) hc fl_X0_9 (by first | assumption | exact ⟨by decide, _, rfl, _, rfl⟩) dX0_addCross_5 rfl ?_
      rw [hR.2.1]
      first | (with_reducible refine chks ?_; refine tt_ishl1 (q := 9) hc (by omega) dX0_addCross_8 rfl ?_) | (with_reducible refine chk2 ?_; refine tt_ishlN (q := 9) hc (by omega) (by omega) dX0_addCross_8 rfl ?_) | refine tt_ishl (q := 9) hc dX0_addCross_8 rfl ?_
      first | (with_reducible refine chk2 ?_; refine tt_icgeN (t := 55) (q := 12) hc (by omega) (by omega) dX0_addCross_9 rfl rfl (fun c_9 => ?_) (fun c_9 => ?_)) | refine tt_icge (t := 55) (q := 12) hc dX0_addCross_9 rfl rfl (fun c_9 => ?_) (fun c_9 => ?_)
      · refine tt_retv hX rfl dX0_addCross_55 ?_
        exact h ν frm.rf hR
      · omega
    | succ n ih =>
      intro c B ν w3 w2 hi hR h
      have ha := crs_ok K (by omega) (by omega) c (by omega)
      have K44 : ∀ s, s = crs c K 0 0 → TT X 44 [.ref (40 + 2 * j), .int (nI c), .int (nI s), .int (nI K)] [] ν := by
        intro s hs
        subst hs
        refine tt_al0 (q := 45) hc dX0_addCross_44 rfl ?_
        refine tt_il2 (q := 46) hc dX0_addCross_45 rfl ?_
        refine tt_cV1 (q := 49) (d' := 0) (ci := 0) hc (by decide) kmX0_toggle ml_X0_31 (by first | assumption | exact ⟨by decide, _, rfl⟩) rfl (Nat.le_of_ble_eq_true rfl) dX0_addCross_46 rfl ?_
        refine c_X0_toggle hj hR ha.1 ha.2 (fun ν' hf hR' => ?_)
        dsimp only [Option.toList, List.nil_append, List.cons_append]
        first | refine tt_inc1 (q := 52) hc dX0_addCross_49 rfl (by decide) (incN _) ?_ | refine tt_inc1 (q := 52) hc dX0_addCross_49 rfl (by decide) rfl ?_
        refine tt_goto (t := 2) hc dX0_addCross_52 rfl ?_
        exact ih _ _ _ _ _ (by omega) hR' (fun ν' hf' hR'' => h ν' (hf.tr hf') hR'')
      refine tt_il1 (q := 3) hc dX0_addCross_2 rfl ?_
      refine tt_iconst (v := nI 1) (q := 4) hc rfl dX0_addCross_3 rfl ?_
      refine tt_al0 (q := 5) hc dX0_addCross_4 rfl ?_
      refine tt_getI (q := 8) hc fl_X0_9 (by first | assumption | exact ⟨by decide, _, rfl, _, rfl⟩) dX0_addCross_5 rfl ?_
      rw [hR.2.1]
      first | (with_reducible refine chks ?_; refine tt_ishl1 (q := 9) hc (by omega) dX0_addCross_8 rfl ?_) | (with_reducible refine chk2 ?_; refine tt_ishlN (q := 9) hc (by omega) (by omega) dX0_addCross_8 rfl ?_) | refine tt_ishl (q := 9) hc dX0_addCross_8 rfl ?_
      first | (with_reducible refine chk2 ?_; refine tt_icgeN (t := 55) (q := 12) hc (by omega) (by omega) dX0_addCross_9 rfl rfl (fun c_9 => ?_) (fun c_9 => ?_)) | refine tt_icge (t := 55) (q := 12) hc dX0_addCross_9 rfl rfl (fun c_9 => ?_) (fun c_9 => ?_)
      · omega
      · refine tt_iconst (v := nI 0) (q := 13) hc rfl dX0_addCross_12 rfl ?_
        refine tt_is2 (q := 14) hc dX0_addCross_13 rfl (by decide) ?_
        refine tt_iconst (v := nI 0) (q := 15) hc rfl dX0_addCross_14 rfl ?_
        refine tt_is3 (q := 16) hc dX0_addCross_15 rfl (by decide) ?_
        exact L2 c ν (fun _ => True) hR.2.1 (by omega) K44 K 0 0 (by omega) rfl
  refine tt_iconst (v := nI 0) (q := 1) hc rfl dX0_addCross_0 rfl ?_
  refine tt_is1 (q := 2) hc dX0_addCross_1 rfl (by decide) ?_
  exact L (2 ^ K) 0 B μ _ _ (by omega) hR hQ
theorem hok0 {K : Nat} (hK : K = 3 ∨ K = 4) : HOK K (fun _ => false) := ⟨hK, fun _ h => by cases h⟩
theorem cW_no (s : Nat) : cW (fun _ => false) s = 0 := cnt_zero (fun _ _ _ => rfl)
set_option maxHeartbeats 4000000 in
theorem c_X0_empty {l : Launch} {j K : Nat} (hj : j < 16) {μ : Mem} {Q : Option Value → Mem → Prop} (hK : K = 3 ∨ K = 4) (hQ : ∀ μ', frm [40 + 2 * j, 40 + 2 * j + 1] μ μ' → RC μ' j K (fun _ => false) → Q none μ') : CC l 0 mX0_empty [.ref (40 + 2 * j), .int (nI K)] μ Q := by
  refine CC.of (M := mX0_empty) (by decide +kernel) rfl (fun v h => by simp at h; rcases h with rfl | rfl <;> rfl) (Nat.le_of_ble_eq_true rfl) (fun X hX => ?_)
  have hc := hX.cx
  have hw : HR (40 + 2 * j) 0 1 (40 + 2 * j + 1) := ⟨by omega, _, sh_ho hj, rfl⟩
  have hk : HI (40 + 2 * j) 0 0 := ⟨by omega, _, sh_ho hj, _, rfl⟩
  have hA : HA (40 + 2 * j + 1) 0 256 := ⟨by omega, sh_hw hj, by decide⟩
  have L : ∀ (n s : Nat) (ν : Mem), s + n = 256 → (∀ ν', frm [40 + 2 * j + 1] ν ν' → (∀ t, s ≤ t → t < 256 → ν' (40 + 2 * j + 1) t = nI 0) → (∀ t, t < s → ν' (40 + 2 * j + 1) t = ν (40 + 2 * j + 1) t) → Q none ν') → TT X 7 [.ref (40 + 2 * j), .int (nI K), .int (nI s)] [] ν := by
    intro n
    induction n with
    | zero =>
      intro s ν hs h
      refine tt_il2 (q := 8) hc dX0_empty_7 rfl ?_
      refine tt_sipush (v := nI 256) (q := 11) hc (by decide) dX0_empty_8 rfl ?_
      first | (with_reducible refine chk2 ?_; refine tt_icgeN (t := 27) (q := 14) hc (by omega) (by omega) dX0_empty_11 rfl rfl (fun c_11 => ?_) (fun c_11 => ?_)) | refine tt_icge (t := 27) (q := 14) hc dX0_empty_11 rfl rfl (fun c_11 => ?_) (fun c_11 => ?_)
      · refine tt_retv hX rfl dX0_empty_27 ?_
        exact h ν frm.rf (fun t h1 h2 => by omega) (fun _ _ => rfl)
      · omega
    | succ n ih =>
      intro s ν hs h
      refine tt_il2 (q := 8) hc dX0_empty_7 rfl ?_
      refine tt_sipush (v := nI 256) (q := 11) hc (by decide) dX0_empty_8 rfl ?_
      first | (with_reducible refine chk2 ?_; refine tt_icgeN (t := 27) (q := 14) hc (by omega) (by omega) dX0_empty_11 rfl rfl (fun c_11 => ?_) (fun c_11 => ?_)) | refine tt_icge (t := 27) (q := 14) hc dX0_empty_11 rfl rfl (fun c_11 => ?_) (fun c_11 => ?_)
      · omega
      · refine tt_al0 (q := 15) hc dX0_empty_14 rfl ?_
        refine tt_getR (q := 18) hc fl_X0_15 (by first | assumption | exact ⟨by decide, _, rfl, rfl⟩) dX0_empty_15 rfl ?_
        refine tt_il2 (q := 19) hc dX0_empty_18 rfl ?_
        refine tt_iconst (v := nI 0) (q := 20) hc rfl dX0_empty_19 rfl ?_
        refine tt_iast (q := 21) hc (by first | assumption | exact ⟨by decide, rfl, by decide⟩) (by omega) dX0_empty_20 rfl ?_
        first | refine tt_inc2 (q := 24) hc dX0_empty_21 rfl (by decide) (incN _) ?_ | refine tt_inc2 (q := 24) hc dX0_empty_21 rfl (by decide) rfl ?_
        refine tt_goto (t := 7) hc dX0_empty_24 rfl ?_
        refine ih _ _ (by omega) (fun ν' hf h1 h2 => h ν' (frm.set.tr hf) (fun t h3 h4 => ?_) (fun t h3 => ?_))
        by_cases e : t = s
        · rw [e, h2 s (by omega), mset_eq, pk_us]
        · exact h1 t (by omega) h4
        rw [h2 t (by omega), mset_eq, pk_un (by omega)]
  refine tt_al0 (q := 1) hc dX0_empty_0 rfl ?_
  refine tt_il1 (q := 2) hc dX0_empty_1 rfl ?_
  refine tt_putI (q := 5) hc fp_X0_9 (by first | assumption | exact ⟨by decide, _, rfl, _, rfl⟩) dX0_empty_2 rfl ?_
  refine tt_iconst (v := nI 0) (q := 6) hc rfl dX0_empty_5 rfl ?_
  refine tt_is2 (q := 7) hc dX0_empty_6 rfl (by decide) ?_
  refine L 256 0 _ rfl (fun ν' hf h1 h2 => hQ ν' (fun i hi => ?_) ⟨hok0 hK, ?_, fun t ht => by rw [h1 t (Nat.zero_le t) ht, cW_no]⟩)
  rw [hf i (fun z => hi (List.mem_cons_of_mem _ z)), mset_ne (fun e => hi (by rw [e]; exact List.mem_cons_self))]
  rw [hf _ (by simp), mset_eq, pk_us]
set_option maxHeartbeats 4000000 in
theorem c_X0_copyOf {l : Launch} {j j2 K : Nat} (hj : j < 16) (hj2 : j2 < 16) (hne : j ≠ j2) {B : Nat → Bool} {μ : Mem} {Q : Option Value → Mem → Prop} (hR : RC μ j2 K B) (hQ : ∀ μ', frm [40 + 2 * j, 40 + 2 * j + 1] μ μ' → RC μ' j K B → Q none μ') : CC l 1 mX0_copyOf [.ref (40 + 2 * j), .ref (40 + 2 * j2)] μ Q := by
  refine CC.of (M := mX0_copyOf) (by decide +kernel) rfl (fun v h => by simp at h; rcases h with rfl | rfl <;> rfl) (Nat.le_of_ble_eq_true rfl) (fun X hX => ?_)
  have hc := hX.cx
  have hw : HR (40 + 2 * j) 0 1 (40 + 2 * j + 1) := ⟨by omega, _, sh_ho hj, rfl⟩
  have hk : HI (40 + 2 * j) 0 0 := ⟨by omega, _, sh_ho hj, _, rfl⟩
  have hA : HA (40 + 2 * j + 1) 0 256 := ⟨by omega, sh_hw hj, by decide⟩
  have hw2 : HR (40 + 2 * j2) 0 1 (40 + 2 * j2 + 1) := ⟨by omega, _, sh_ho hj2, rfl⟩
  have hk2 : HI (40 + 2 * j2) 0 0 := ⟨by omega, _, sh_ho hj2, _, rfl⟩
  have hA2 : HA (40 + 2 * j2 + 1) 0 256 := ⟨by omega, sh_hw hj2, by decide⟩
  refine tt_al0 (q := 1) hc dX0_copyOf_0 rfl ?_
  refine tt_al1 (q := 2) hc dX0_copyOf_1 rfl ?_
  refine tt_getI (q := 5) hc fl_X0_9 (by first | assumption | exact ⟨by decide, _, rfl, _, rfl⟩) dX0_copyOf_2 rfl ?_
  refine tt_putI (q := 8) hc fp_X0_9 (by first | assumption | exact ⟨by decide, _, rfl, _, rfl⟩) dX0_copyOf_5 rfl ?_
  refine tt_al1 (q := 9) hc dX0_copyOf_8 rfl ?_
  refine tt_getR (q := 12) hc fl_X0_15 (by first | assumption | exact ⟨by decide, _, rfl, rfl⟩) dX0_copyOf_9 rfl ?_
  refine tt_iconst (v := nI 0) (q := 13) hc rfl dX0_copyOf_12 rfl ?_
  refine tt_al0 (q := 14) hc dX0_copyOf_13 rfl ?_
  refine tt_getR (q := 17) hc fl_X0_15 (by first | assumption | exact ⟨by decide, _, rfl, rfl⟩) dX0_copyOf_14 rfl ?_
  refine tt_iconst (v := nI 0) (q := 18) hc rfl dX0_copyOf_17 rfl ?_
  refine tt_sipush (v := nI 256) (q := 21) hc (by decide) dX0_copyOf_18 rfl ?_
  refine tt_acopy (q := 24) hc (by decide) ac_X0_19 (by assumption) (by assumption) rfl rfl (by omega) (by omega) (fun _ _ => rfl) rfl dX0_copyOf_21 rfl ?_
  refine tt_retv hX rfl dX0_copyOf_24 ?_
  refine hQ _ (fun i hi => ?_) ⟨hR.1, ?_, fun t ht => ?_⟩
  rw [mset_ne (fun e => hi (by rw [e]; simp)), mset_ne (fun e => hi (by rw [e]; simp))]
  rw [mset_ne (by omega), mset_eq, pk_us]
  exact hR.2.1
  rw [mset_eq, pk_cpy_in (Nat.zero_le t) (by omega), mset_ne (by omega), Nat.zero_add, Nat.sub_zero]
  exact hR.2.2 t ht
