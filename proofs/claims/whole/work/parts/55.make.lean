/-! THE MODEL: kinds made; cones -/
theorem bIt {b : Bool} (h : b = true) : nI 1 = bI b := by rw [h]; rfl
theorem bIf {b : Bool} (h : b = false) : nI 0 = bI b := by rw [h]; rfl
theorem bI_and (a b : Bool) : bI a &&& bI b = bI (a && b) := by cases a <;> cases b <;> rfl
theorem p2p : ∀ p, p < 4 → 2 ^ (2 * p) ≤ 64 := by decide
set_option maxHeartbeats 1000000 in
theorem c_X9_isOne {l : Launch} {s p : Nat} {μ : Mem} {Q : Option Value → Mem → Prop} (hs : s < 256) (hp : p < 4) (hQ : Q (some (.int (bI (decide (pop (s &&& 3 * 2 ^ (2 * p)) = 1))))) μ) : CC l 2 mX9_isOne [.int (nI s), .int (nI p)] μ Q := by
  refine CC.of (M := mX9_isOne) (by decide +kernel) rfl (fun v h => by simp at h; rcases h with rfl | rfl <;> rfl) (Nat.le_of_ble_eq_true rfl) (fun X hX => ?_)
  have hc := hX.cx
  have h2 := p2p p hp
  have ha := and_lt (a := s) (b := 3 * 2 ^ (2 * p)) hs
  have hpp := pop_le _ ha
  refine tt_il0 (q := 1) hc dX9_isOne_0 rfl ?_
  refine tt_iconst (v := nI 3) (q := 2) hc rfl dX9_isOne_1 rfl ?_
  refine tt_iconst (v := nI 2) (q := 3) hc rfl dX9_isOne_2 rfl ?_
  refine tt_il1 (q := 4) hc dX9_isOne_3 rfl ?_
  first | (with_reducible refine chk2 ?_; refine tt_imulN (q := 5) hc dX9_isOne_4 rfl ?_) | refine tt_imul (q := 5) hc dX9_isOne_4 rfl ?_
  first | (with_reducible refine chks ?_; refine tt_ishl1 (q := 6) hc (by omega) dX9_isOne_5 rfl ?_) | (with_reducible refine chk2 ?_; refine tt_ishlN (q := 6) hc (by omega) (by omega) dX9_isOne_5 rfl ?_) | refine tt_ishl (q := 6) hc dX9_isOne_5 rfl ?_
  first | (with_reducible refine chk2 ?_; refine tt_iandN (q := 7) hc dX9_isOne_6 rfl ?_) | (with_reducible refine chkan ?_; refine tt_iandnN (q := 7) hc dX9_isOne_6 rfl ?_) | (with_reducible refine chkna ?_; refine tt_inandN (q := 7) hc dX9_isOne_6 rfl ?_) | refine tt_iand (q := 7) hc dX9_isOne_6 rfl ?_
  refine tt_cS1 (q := 10) (d' := 1) hc (by first | decide | omega) kmX9_many ml_X9_110 (Nat.le_of_ble_eq_true rfl) dX9_isOne_7 rfl ?_
  refine c_X9_many ?_
  dsimp only [Option.toList, List.nil_append, List.cons_append]
  refine tt_iconst (v := nI 1) (q := 11) hc rfl dX9_isOne_10 rfl ?_
  first | (with_reducible refine chk2 ?_; refine tt_icneN (t := 18) (q := 14) hc (by omega) (by omega) dX9_isOne_11 rfl rfl (fun c_11 => ?_) (fun c_11 => ?_)) | refine tt_icne (t := 18) (q := 14) hc dX9_isOne_11 rfl rfl (fun c_11 => ?_) (fun c_11 => ?_)
  · refine tt_iconst (v := nI 0) (q := 19) hc rfl dX9_isOne_18 rfl ?_
    refine tt_retz hX rfl (by first | decide | exact bI_01 _) dX9_isOne_19 ?_
    first
    | exact qb1 hQ (decide_eq_true c_11)
    | exact qb0 hQ (decide_eq_false c_11)
  · refine tt_iconst (v := nI 1) (q := 15) hc rfl dX9_isOne_14 rfl ?_
    refine tt_goto (t := 19) hc dX9_isOne_15 rfl ?_
    refine tt_retz hX rfl (by first | decide | exact bI_01 _) dX9_isOne_19 ?_
    first
    | exact qb1 hQ (decide_eq_true c_11)
    | exact qb0 hQ (decide_eq_false c_11)
def isc (s : Nat) : Nat → Nat → Bool → Bool
  | 0, _, b => b
  | n + 1, p, b => isc s n (p + 1) (b && decide (pop (s &&& 3 * 2 ^ (2 * p)) = 1))
set_option maxHeartbeats 1000000 in
theorem c_X9_isCross {l : Launch} {s K : Nat} {μ : Mem} {Q : Option Value → Mem → Prop} (hK : K = 3 ∨ K = 4) (hz : μ 24 0 = nI K) (hs : s < 256) (hQ : Q (some (.int (bI (isc s K 0 (decide (pop s = K)))))) μ) : CC l 3 mX9_isCross [.ref 24, .int (nI s)] μ Q := by
  refine CC.of (M := mX9_isCross) (by decide +kernel) rfl (fun v h => by simp at h; rcases h with rfl | rfl <;> rfl) (Nat.le_of_ble_eq_true rfl) (fun X hX => ?_)
  have hc := hX.cx
  have hp := pop_le s hs
  have L : ∀ (n p : Nat) (b : Bool), p + n = K → Q (some (.int (bI (isc s n p b)))) μ → TT X 19 [.ref 24, .int (nI s), .int (bI b), .int (nI p)] [] μ := by
    intro n
    induction n with
    | zero =>
      intro p b hp h
      refine tt_il3 (q := 20) hc dX9_isCross_19 rfl ?_
      refine tt_al0 (q := 21) hc dX9_isCross_20 rfl ?_
      refine tt_getI (q := 24) hc fl_X9_9 (by first | assumption | exact ⟨by decide, _, rfl, _, rfl⟩) dX9_isCross_21 rfl ?_
      rw [hz]
      first | (with_reducible refine chk2 ?_; refine tt_icgeN (t := 41) (q := 27) hc (by omega) (by omega) dX9_isCross_24 rfl rfl (fun c_24 => ?_) (fun c_24 => ?_)) | refine tt_icge (t := 41) (q := 27) hc dX9_isCross_24 rfl rfl (fun c_24 => ?_) (fun c_24 => ?_)
      · refine tt_il2 (q := 42) hc dX9_isCross_41 rfl ?_
        refine tt_retz hX rfl (by first | decide | exact bI_01 _) dX9_isCross_42 ?_
        exact h
      · omega
    | succ n ih =>
      intro p b hp h
      rw [isc] at h
      refine tt_il3 (q := 20) hc dX9_isCross_19 rfl ?_
      refine tt_al0 (q := 21) hc dX9_isCross_20 rfl ?_
      refine tt_getI (q := 24) hc fl_X9_9 (by first | assumption | exact ⟨by decide, _, rfl, _, rfl⟩) dX9_isCross_21 rfl ?_
      rw [hz]
      first | (with_reducible refine chk2 ?_; refine tt_icgeN (t := 41) (q := 27) hc (by omega) (by omega) dX9_isCross_24 rfl rfl (fun c_24 => ?_) (fun c_24 => ?_)) | refine tt_icge (t := 41) (q := 27) hc dX9_isCross_24 rfl rfl (fun c_24 => ?_) (fun c_24 => ?_)
      · omega
      · refine tt_il2 (q := 28) hc dX9_isCross_27 rfl ?_
        refine tt_il1 (q := 29) hc dX9_isCross_28 rfl ?_
        refine tt_il3 (q := 30) hc dX9_isCross_29 rfl ?_
        refine tt_cS2 (q := 33) (d' := 2) hc (by first | decide | omega) kmX9_isOne ml_X9_127 (Nat.le_of_ble_eq_true rfl) dX9_isCross_30 rfl ?_
        refine c_X9_isOne hs (by omega) ?_
        dsimp only [Option.toList, List.nil_append, List.cons_append]
        refine tt_iand (q := 34) hc dX9_isCross_33 rfl ?_
        rw [bI_and]
        refine tt_is2 (q := 35) hc dX9_isCross_34 rfl (by decide) ?_
        first | refine tt_inc3 (q := 38) hc dX9_isCross_35 rfl (by decide) (incN _) ?_ | refine tt_inc3 (q := 38) hc dX9_isCross_35 rfl (by decide) rfl ?_
        refine tt_goto (t := 19) hc dX9_isCross_38 rfl ?_
        exact ih (p + 1) _ (by omega) h
  refine tt_il1 (q := 1) hc dX9_isCross_0 rfl ?_
  refine tt_cS1 (q := 4) (d' := 1) hc (by first | decide | omega) kmX9_many ml_X9_110 (Nat.le_of_ble_eq_true rfl) dX9_isCross_1 rfl ?_
  refine c_X9_many ?_
  dsimp only [Option.toList, List.nil_append, List.cons_append]
  refine tt_al0 (q := 5) hc dX9_isCross_4 rfl ?_
  refine tt_getI (q := 8) hc fl_X9_9 (by first | assumption | exact ⟨by decide, _, rfl, _, rfl⟩) dX9_isCross_5 rfl ?_
  rw [hz]
  first | (with_reducible refine chk2 ?_; refine tt_icneN (t := 15) (q := 11) hc (by omega) (by omega) dX9_isCross_8 rfl rfl (fun c_8 => ?_) (fun c_8 => ?_)) | refine tt_icne (t := 15) (q := 11) hc dX9_isCross_8 rfl rfl (fun c_8 => ?_) (fun c_8 => ?_)
  · refine tt_iconst (v := nI 0) (q := 16) hc rfl dX9_isCross_15 rfl ?_
    refine tt_is2 (q := 17) hc dX9_isCross_16 rfl (by decide) ?_
    refine tt_iconst (v := nI 0) (q := 18) hc rfl dX9_isCross_17 rfl ?_
    refine tt_is3 (q := 19) hc dX9_isCross_18 rfl (by decide) ?_
    first
    | (rw [decide_eq_true c_8] at hQ; exact L K 0 true (by omega) hQ)
    | (rw [decide_eq_false c_8] at hQ; exact L K 0 false (by omega) hQ)
  · refine tt_iconst (v := nI 1) (q := 12) hc rfl dX9_isCross_11 rfl ?_
    refine tt_goto (t := 16) hc dX9_isCross_12 rfl ?_
    refine tt_is2 (q := 17) hc dX9_isCross_16 rfl (by decide) ?_
    refine tt_iconst (v := nI 0) (q := 18) hc rfl dX9_isCross_17 rfl ?_
    refine tt_is3 (q := 19) hc dX9_isCross_18 rfl (by decide) ?_
    first
    | (rw [decide_eq_true c_8] at hQ; exact L K 0 true (by omega) hQ)
    | (rw [decide_eq_false c_8] at hQ; exact L K 0 false (by omega) hQ)
def rnk (f : Nat) : Nat → Nat → Nat → Nat
  | 0, _, s => s
  | n + 1, k, s => rnk f n (k + 1) (s ||| 2 ^ ((f + k) % 8))
theorem rnk_arc3 : ∀ f, f < 8 → rnk f 3 0 0 = arcN 3 f := by decide +kernel
theorem rnk_arc4 : ∀ f, f < 8 → rnk f 4 0 0 = arcN 4 f := by decide +kernel
theorem rnk_arc {K f : Nat} (hK : K = 3 ∨ K = 4) (hf : f < 8) : rnk f K 0 0 = arcN K f := by
  rcases hK with rfl | rfl
  · exact rnk_arc3 f hf
  · exact rnk_arc4 f hf
set_option maxHeartbeats 1000000 in
theorem c_X9_run {l : Launch} {f K : Nat} {μ : Mem} {Q : Option Value → Mem → Prop} (hK : K = 3 ∨ K = 4) (hz : μ 24 0 = nI K) (hf : f < 8) (hQ : Q (some (.int (nI (arcN K f)))) μ) : CC l 0 mX9_run [.ref 24, .int (nI f)] μ Q := by
  refine CC.of (M := mX9_run) (by decide +kernel) rfl (fun v h => by simp at h; rcases h with rfl | rfl <;> rfl) (Nat.le_of_ble_eq_true rfl) (fun X hX => ?_)
  have hc := hX.cx
  rw [← rnk_arc hK hf] at hQ
  have L : ∀ (n k s : Nat), k + n = K → s < 256 → Q (some (.int (nI (rnk f n k s)))) μ → TT X 4 [.ref 24, .int (nI f), .int (nI s), .int (nI k)] [] μ := by
    intro n
    induction n with
    | zero =>
      intro k s hk hs h
      refine tt_il3 (q := 5) hc dX9_run_4 rfl ?_
      refine tt_al0 (q := 6) hc dX9_run_5 rfl ?_
      refine tt_getI (q := 9) hc fl_X9_9 (by first | assumption | exact ⟨by decide, _, rfl, _, rfl⟩) dX9_run_6 rfl ?_
      rw [hz]
      first | (with_reducible refine chk2 ?_; refine tt_icgeN (t := 29) (q := 12) hc (by omega) (by omega) dX9_run_9 rfl rfl (fun c_9 => ?_) (fun c_9 => ?_)) | refine tt_icge (t := 29) (q := 12) hc dX9_run_9 rfl rfl (fun c_9 => ?_) (fun c_9 => ?_)
      · refine tt_il2 (q := 30) hc dX9_run_29 rfl ?_
        refine tt_reti hX rfl dX9_run_30 ?_
        exact h
      · omega
    | succ n ih =>
      intro k s hk hs h
      have hor := or_lt hs (p2_lt (show (f + k) % 8 < 8 by omega))
      rw [rnk] at h
      refine tt_il3 (q := 5) hc dX9_run_4 rfl ?_
      refine tt_al0 (q := 6) hc dX9_run_5 rfl ?_
      refine tt_getI (q := 9) hc fl_X9_9 (by first | assumption | exact ⟨by decide, _, rfl, _, rfl⟩) dX9_run_6 rfl ?_
      rw [hz]
      first | (with_reducible refine chk2 ?_; refine tt_icgeN (t := 29) (q := 12) hc (by omega) (by omega) dX9_run_9 rfl rfl (fun c_9 => ?_) (fun c_9 => ?_)) | refine tt_icge (t := 29) (q := 12) hc dX9_run_9 rfl rfl (fun c_9 => ?_) (fun c_9 => ?_)
      · omega
      · refine tt_il2 (q := 13) hc dX9_run_12 rfl ?_
        refine tt_iconst (v := nI 1) (q := 14) hc rfl dX9_run_13 rfl ?_
        refine tt_il1 (q := 15) hc dX9_run_14 rfl ?_
        refine tt_il3 (q := 16) hc dX9_run_15 rfl ?_
        first | (with_reducible refine chk2 ?_; refine tt_iaddN (q := 17) hc dX9_run_16 rfl ?_) | refine tt_iadd (q := 17) hc dX9_run_16 rfl ?_
        refine tt_bipush (v := nI 8) (q := 19) hc (by decide) dX9_run_17 rfl ?_
        first | (with_reducible refine chk2 ?_; refine tt_iremN (q := 20) hc (by omega) (by omega) (by omega) dX9_run_19 rfl ?_) | refine tt_irem (q := 20) hc (by decide) dX9_run_19 rfl ?_
        first | (with_reducible refine chks ?_; refine tt_ishl1 (q := 21) hc (by omega) dX9_run_20 rfl ?_) | (with_reducible refine chk2 ?_; refine tt_ishlN (q := 21) hc (by omega) (by omega) dX9_run_20 rfl ?_) | refine tt_ishl (q := 21) hc dX9_run_20 rfl ?_
        first | (with_reducible refine chk2 ?_; refine tt_iorN (q := 22) hc dX9_run_21 rfl ?_) | refine tt_ior (q := 22) hc dX9_run_21 rfl ?_
        refine tt_is2 (q := 23) hc dX9_run_22 rfl (by decide) ?_
        first | refine tt_inc3 (q := 26) hc dX9_run_23 rfl (by decide) (incN _) ?_ | refine tt_inc3 (q := 26) hc dX9_run_23 rfl (by decide) rfl ?_
        refine tt_goto (t := 4) hc dX9_run_26 rfl ?_
        exact ih (k + 1) _ (by omega) hor h
  refine tt_iconst (v := nI 0) (q := 1) hc rfl dX9_run_0 rfl ?_
  refine tt_is2 (q := 2) hc dX9_run_1 rfl (by decide) ?_
  refine tt_iconst (v := nI 0) (q := 3) hc rfl dX9_run_2 rfl ?_
  refine tt_is3 (q := 4) hc dX9_run_3 rfl (by decide) ?_
  exact L K 0 0 (by omega) (by decide) hQ
def prB (K k s : Nat) : Bool := (decide (k = 2) && decide (pop s = K) && decide (s < 2 ^ (K + 1))) || (decide (k = 5) && isc s K 0 (decide (pop s = K)))
theorem prB_1 {K k s : Nat} (h1 : k = 2) (h2 : pop s = K) (h3 : s < 2 ^ (K + 1)) : prB K k s = true := by simp [prB, h1, h2, h3]
theorem prB_2 {K k s : Nat} (h1 : k = 5) (h2 : isc s K 0 (decide (pop s = K)) = true) : prB K k s = true := by
  unfold prB
  rw [h2, decide_eq_true h1]
  simp
theorem prB_0 {K k s : Nat} (h1 : ¬ (k = 2 ∧ pop s = K ∧ s < 2 ^ (K + 1))) (h2 : ¬ (k = 5 ∧ isc s K 0 (decide (pop s = K)) = true)) : prB K k s = false := by
  unfold prB
  have e1 : (decide (k = 2) && decide (pop s = K) && decide (s < 2 ^ (K + 1))) = false := by
    cases e : (decide (k = 2) && decide (pop s = K) && decide (s < 2 ^ (K + 1)))
    · rfl
    · simp only [Bool.and_eq_true, decide_eq_true_eq] at e
      exact absurd ⟨e.1.1, e.1.2, e.2⟩ h1
  have e2 : (decide (k = 5) && isc s K 0 (decide (pop s = K))) = false := by
    cases e : (decide (k = 5) && isc s K 0 (decide (pop s = K)))
    · rfl
    · simp only [Bool.and_eq_true, decide_eq_true_eq] at e
      exact absurd e h2
  rw [e1, e2]
  rfl
def insR (K : Nat) : Nat → Nat → Bool
  | 0, _ => false
  | i + 1, t => insR K i t || decide (t = arcN K i)
def nRn (K k : Nat) : Nat := if k = 3 then 9 - K else if k = 4 then 8 else 0
def bsB (K k t : Nat) : Bool := prB K k t || (decide (k = 1) && decide (t = arcN K 0))
def mkB (K k t : Nat) : Bool := bsB K k t || insR K (nRn K k) t
theorem mk_m30 : ∀ t, t < 256 → mkB 3 0 t = made 3 0 t := by decide +kernel
theorem mk_m31 : ∀ t, t < 256 → mkB 3 1 t = made 3 1 t := by decide +kernel
theorem mk_m32 : ∀ t, t < 256 → mkB 3 2 t = made 3 2 t := by decide +kernel
theorem mk_m33 : ∀ t, t < 256 → mkB 3 3 t = made 3 3 t := by decide +kernel
theorem mk_m34 : ∀ t, t < 256 → mkB 3 4 t = made 3 4 t := by decide +kernel
theorem mk_m35 : ∀ t, t < 256 → mkB 3 5 t = made 3 5 t := by decide +kernel
theorem mk_m40 : ∀ t, t < 256 → mkB 4 0 t = made 4 0 t := by decide +kernel
theorem mk_m41 : ∀ t, t < 256 → mkB 4 1 t = made 4 1 t := by decide +kernel
theorem mk_m42 : ∀ t, t < 256 → mkB 4 2 t = made 4 2 t := by decide +kernel
theorem mk_m43 : ∀ t, t < 256 → mkB 4 3 t = made 4 3 t := by decide +kernel
theorem mk_m44 : ∀ t, t < 256 → mkB 4 4 t = made 4 4 t := by decide +kernel
theorem mk_m45 : ∀ t, t < 256 → mkB 4 5 t = made 4 5 t := by decide +kernel
theorem mk_made {K k t : Nat} (hK : K = 3 ∨ K = 4) (hk : k ≤ 5) (ht : t < 256) : mkB K k t = made K k t := by
  rcases hK with rfl | rfl
  · rcases (show k = 0 ∨ k = 1 ∨ k = 2 ∨ k = 3 ∨ k = 4 ∨ k = 5 by omega) with rfl | rfl | rfl | rfl | rfl | rfl
    · exact mk_m30 t ht
    · exact mk_m31 t ht
    · exact mk_m32 t ht
    · exact mk_m33 t ht
    · exact mk_m34 t ht
    · exact mk_m35 t ht
  · rcases (show k = 0 ∨ k = 1 ∨ k = 2 ∨ k = 3 ∨ k = 4 ∨ k = 5 by omega) with rfl | rfl | rfl | rfl | rfl | rfl
    · exact mk_m40 t ht
    · exact mk_m41 t ht
    · exact mk_m42 t ht
    · exact mk_m43 t ht
    · exact mk_m44 t ht
    · exact mk_m45 t ht
theorem arcsB_ok {K : Nat} (hK : K = 3 ∨ K = 4) : ∀ n i (B : HP), i + n ≤ 8 → HOK K B → HOK K (arcsB K n i B)
  | 0, _, _, _, h => h
  | n + 1, i, B, hi, h => by
    rw [arcsB]
    obtain ⟨a1, a2⟩ := arc_ok K (by omega) (by omega) i (by omega)
    exact arcsB_ok hK n (i + 1) _ (by omega) (tog_ok h a1 a2)
theorem crsB_ok {K : Nat} (hK : K = 3 ∨ K = 4) : ∀ n c (B : HP), c + n ≤ 2 ^ K → HOK K B → HOK K (crsB K n c B)
  | 0, _, _, _, h => h
  | n + 1, c, B, hi, h => by
    rw [crsB]
    obtain ⟨a1, a2⟩ := crs_ok K (by omega) (by omega) c (by omega)
    exact crsB_ok hK n (c + 1) _ (by omega) (tog_ok h a1 a2)
theorem made_ok {K k : Nat} (hK : K = 3 ∨ K = 4) (hk : k ≤ 5) : HOK K (made K k) := by
  have h0 := hok0 hK
  rcases (show k = 0 ∨ k = 1 ∨ k = 2 ∨ k = 3 ∨ k = 4 ∨ k = 5 by omega) with rfl | rfl | rfl | rfl | rfl | rfl
  · exact h0
  · obtain ⟨a1, a2⟩ := arc_ok K (by omega) (by omega) 0 (by decide)
    exact tog_ok h0 a1 a2
  · rcases hK with rfl | rfl
    · exact togs_ok (K := 3) (by decide) (by decide) 8 0 _ rfl h0
    · exact togs_ok (K := 4) (by decide) (by decide) 8 0 _ rfl h0
  · exact arcsB_ok hK _ _ _ (by omega) h0
  · exact arcsB_ok hK _ _ _ (by omega) h0
  · exact crsB_ok hK _ _ _ (by omega) h0
set_option maxHeartbeats 2000000 in
theorem make_loop {l : Launch} {X : XT} {Q : Option Value → Mem → Prop} {K n : Nat} (hX : Cm X l 4 mX9_make Q) (hK : K = 3 ∨ K = 4) (hn : n ≤ 5) (ν0 : Mem) (z0 : ν0 24 0 = nI K) (F : ∀ (ν : Mem) (w2 : Value), frm [77] ν0 ν → (∀ t, t < 256 → ν 77 t = bI (mkB K n t)) → TT X 144 [.ref 24, .int (nI n), w2] [] ν) (w2 : Value) : TT X 15 [.ref 24, .int (nI n), w2] [] ν0 := by
  have hc := hX.cx
  have a77 := HA77
  have h2K : 2 ^ (K + 1) ≤ 32 := by rcases hK with rfl | rfl <;> decide
  have hnr : nRn K n ≤ 8 := by
    unfold nRn
    split
    · omega
    · split <;> omega
  have L2 : ∀ (m i : Nat) (ν : Mem), i + m = nRn K n → frm [77] ν0 ν → (∀ t, t < 256 → ν 77 t = bI (bsB K n t || insR K i t)) → TT X 100 [.ref 24, .int (nI n), .int (nI i)] [] ν := by
    intro m
    induction m with
    | zero =>
      intro i ν hi hf hv
      have z : ν 24 0 = nI K := by rw [hf 24 (by decide)]; exact z0
      have hi2 := hi
      unfold nRn at hi2
      refine tt_il1 (q := 101) hc dX9_make_100 rfl ?_
      refine tt_iconst (v := nI 3) (q := 102) hc rfl dX9_make_101 rfl ?_
      first | (with_reducible refine chk2 ?_; refine tt_icneN (t := 116) (q := 105) hc (by omega) (by omega) dX9_make_102 rfl rfl (fun c_102 => ?_) (fun c_102 => ?_)) | refine tt_icne (t := 116) (q := 105) hc dX9_make_102 rfl rfl (fun c_102 => ?_) (fun c_102 => ?_)
      · refine tt_il1 (q := 117) hc dX9_make_116 rfl ?_
        refine tt_iconst (v := nI 4) (q := 118) hc rfl dX9_make_117 rfl ?_
        first | (with_reducible refine chk2 ?_; refine tt_icneN (t := 144) (q := 121) hc (by omega) (by omega) dX9_make_118 rfl rfl (fun c_118 => ?_) (fun c_118 => ?_)) | refine tt_icne (t := 144) (q := 121) hc dX9_make_118 rfl rfl (fun c_118 => ?_) (fun c_118 => ?_)
        · exact F ν _ hf (fun t ht => by rw [hv t ht, mkB, ← hi, Nat.add_zero])
        · refine tt_il2 (q := 122) hc dX9_make_121 rfl ?_
          refine tt_bipush (v := nI 8) (q := 124) hc (by decide) dX9_make_122 rfl ?_
          first | (with_reducible refine chk2 ?_; refine tt_icgeN (t := 144) (q := 127) hc (by omega) (by omega) dX9_make_124 rfl rfl (fun c_124 => ?_) (fun c_124 => ?_)) | refine tt_icge (t := 144) (q := 127) hc dX9_make_124 rfl rfl (fun c_124 => ?_) (fun c_124 => ?_)
          · exact F ν _ hf (fun t ht => by rw [hv t ht, mkB, ← hi, Nat.add_zero])
          · (split at hi2 <;> (try split at hi2) <;> omega)
      · refine tt_il2 (q := 106) hc dX9_make_105 rfl ?_
        refine tt_bipush (v := nI 8) (q := 108) hc (by decide) dX9_make_106 rfl ?_
        refine tt_al0 (q := 109) hc dX9_make_108 rfl ?_
        refine tt_getI (q := 112) hc fl_X9_9 (by first | assumption | exact ⟨by decide, _, rfl, _, rfl⟩) dX9_make_109 rfl ?_
        rw [z]
        first | (with_reducible refine chk2 ?_; refine tt_isubN (q := 113) hc (by omega) dX9_make_112 rfl ?_) | refine tt_isub (q := 113) hc dX9_make_112 rfl ?_
        first | (with_reducible refine chk2 ?_; refine tt_icleN (t := 127) (q := 116) hc (by omega) (by omega) dX9_make_113 rfl rfl (fun c_113 => ?_) (fun c_113 => ?_)) | refine tt_icle (t := 127) (q := 116) hc dX9_make_113 rfl rfl (fun c_113 => ?_) (fun c_113 => ?_)
        · (split at hi2 <;> (try split at hi2) <;> omega)
        · refine tt_il1 (q := 117) hc dX9_make_116 rfl ?_
          refine tt_iconst (v := nI 4) (q := 118) hc rfl dX9_make_117 rfl ?_
          first | (with_reducible refine chk2 ?_; refine tt_icneN (t := 144) (q := 121) hc (by omega) (by omega) dX9_make_118 rfl rfl (fun c_118 => ?_) (fun c_118 => ?_)) | refine tt_icne (t := 144) (q := 121) hc dX9_make_118 rfl rfl (fun c_118 => ?_) (fun c_118 => ?_)
          · exact F ν _ hf (fun t ht => by rw [hv t ht, mkB, ← hi, Nat.add_zero])
          · refine tt_il2 (q := 122) hc dX9_make_121 rfl ?_
            refine tt_bipush (v := nI 8) (q := 124) hc (by decide) dX9_make_122 rfl ?_
            first | (with_reducible refine chk2 ?_; refine tt_icgeN (t := 144) (q := 127) hc (by omega) (by omega) dX9_make_124 rfl rfl (fun c_124 => ?_) (fun c_124 => ?_)) | refine tt_icge (t := 144) (q := 127) hc dX9_make_124 rfl rfl (fun c_124 => ?_) (fun c_124 => ?_)
            · exact F ν _ hf (fun t ht => by rw [hv t ht, mkB, ← hi, Nat.add_zero])
            · (split at hi2 <;> (try split at hi2) <;> omega)
    | succ m ih =>
      intro i ν hi hf hv
      have z : ν 24 0 = nI K := by rw [hf 24 (by decide)]; exact z0
      have hi2 := hi
      unfold nRn at hi2
      have hi8 : i < 8 := by omega
      have harc := (arc_ok K (by omega) (by omega) i hi8).1
      have E : TT X 127 [.ref 24, .int (nI n), .int (nI i)] [] ν := by
        refine tt_al0 (q := 128) hc dX9_make_127 rfl ?_
        refine tt_getR (q := 131) hc fl_X9_15 (by first | assumption | exact ⟨by decide, _, rfl, rfl⟩) dX9_make_128 rfl ?_
        refine tt_al0 (q := 132) hc dX9_make_131 rfl ?_
        refine tt_il2 (q := 133) hc dX9_make_132 rfl ?_
        refine tt_cV1 (q := 136) (d' := 0) (ci := 9) hc (by first | decide | omega) kmX9_run ml_X9_137 (by first | assumption | exact ⟨by decide, _, rfl⟩) rfl (Nat.le_of_ble_eq_true rfl) dX9_make_133 rfl ?_
        refine c_X9_run hK z hi8 ?_
        dsimp only [Option.toList, List.nil_append, List.cons_append]
        refine tt_iconst (v := nI 1) (q := 137) hc rfl dX9_make_136 rfl ?_
        refine tt_zast (q := 138) hc (by first | assumption | exact ⟨by decide, rfl, by decide⟩) (by omega) (by first | decide | exact bI_01 _) dX9_make_137 rfl ?_
        first | refine tt_inc2 (q := 141) hc dX9_make_138 rfl (by decide) (incN _) ?_ | refine tt_inc2 (q := 141) hc dX9_make_138 rfl (by decide) rfl ?_
        refine tt_goto (t := 100) hc dX9_make_141 rfl ?_
        refine ih (i + 1) _ (by omega) (hf.tr frm.set) (fun t ht => ?_)
        rw [mset_eq, insR]
        by_cases e : t = arcN K i
        · subst e
          rw [pk_us, decide_eq_true rfl, Bool.or_true, Bool.or_true]
          rfl
        · rw [pk_un e, hv t ht, decide_eq_false e, Bool.or_false]
      refine tt_il1 (q := 101) hc dX9_make_100 rfl ?_
      refine tt_iconst (v := nI 3) (q := 102) hc rfl dX9_make_101 rfl ?_
      first | (with_reducible refine chk2 ?_; refine tt_icneN (t := 116) (q := 105) hc (by omega) (by omega) dX9_make_102 rfl rfl (fun c_102 => ?_) (fun c_102 => ?_)) | refine tt_icne (t := 116) (q := 105) hc dX9_make_102 rfl rfl (fun c_102 => ?_) (fun c_102 => ?_)
      · refine tt_il1 (q := 117) hc dX9_make_116 rfl ?_
        refine tt_iconst (v := nI 4) (q := 118) hc rfl dX9_make_117 rfl ?_
        first | (with_reducible refine chk2 ?_; refine tt_icneN (t := 144) (q := 121) hc (by omega) (by omega) dX9_make_118 rfl rfl (fun c_118 => ?_) (fun c_118 => ?_)) | refine tt_icne (t := 144) (q := 121) hc dX9_make_118 rfl rfl (fun c_118 => ?_) (fun c_118 => ?_)
        · exfalso
          split at hi2 <;> (try split at hi2) <;> omega
        · refine tt_il2 (q := 122) hc dX9_make_121 rfl ?_
          refine tt_bipush (v := nI 8) (q := 124) hc (by decide) dX9_make_122 rfl ?_
          first | (with_reducible refine chk2 ?_; refine tt_icgeN (t := 144) (q := 127) hc (by omega) (by omega) dX9_make_124 rfl rfl (fun c_124 => ?_) (fun c_124 => ?_)) | refine tt_icge (t := 144) (q := 127) hc dX9_make_124 rfl rfl (fun c_124 => ?_) (fun c_124 => ?_)
          · exfalso
            omega
          · exact E
      · refine tt_il2 (q := 106) hc dX9_make_105 rfl ?_
        refine tt_bipush (v := nI 8) (q := 108) hc (by decide) dX9_make_106 rfl ?_
        refine tt_al0 (q := 109) hc dX9_make_108 rfl ?_
        refine tt_getI (q := 112) hc fl_X9_9 (by first | assumption | exact ⟨by decide, _, rfl, _, rfl⟩) dX9_make_109 rfl ?_
        rw [z]
        first | (with_reducible refine chk2 ?_; refine tt_isubN (q := 113) hc (by omega) dX9_make_112 rfl ?_) | refine tt_isub (q := 113) hc dX9_make_112 rfl ?_
        first | (with_reducible refine chk2 ?_; refine tt_icleN (t := 127) (q := 116) hc (by omega) (by omega) dX9_make_113 rfl rfl (fun c_113 => ?_) (fun c_113 => ?_)) | refine tt_icle (t := 127) (q := 116) hc dX9_make_113 rfl rfl (fun c_113 => ?_) (fun c_113 => ?_)
        · exact E
        · refine tt_il1 (q := 117) hc dX9_make_116 rfl ?_
          refine tt_iconst (v := nI 4) (q := 118) hc rfl dX9_make_117 rfl ?_
          first | (with_reducible refine chk2 ?_; refine tt_icneN (t := 144) (q := 121) hc (by omega) (by omega) dX9_make_118 rfl rfl (fun c_118 => ?_) (fun c_118 => ?_)) | refine tt_icne (t := 144) (q := 121) hc dX9_make_118 rfl rfl (fun c_118 => ?_) (fun c_118 => ?_)
          · exfalso
            split at hi2 <;> (try split at hi2) <;> omega
          · refine tt_il2 (q := 122) hc dX9_make_121 rfl ?_
            refine tt_bipush (v := nI 8) (q := 124) hc (by decide) dX9_make_122 rfl ?_
            first | (with_reducible refine chk2 ?_; refine tt_icgeN (t := 144) (q := 127) hc (by omega) (by omega) dX9_make_124 rfl rfl (fun c_124 => ?_) (fun c_124 => ?_)) | refine tt_icge (t := 144) (q := 127) hc dX9_make_124 rfl rfl (fun c_124 => ?_) (fun c_124 => ?_)
            · exfalso
              omega
            · exact E
  have L1 : ∀ (m s : Nat) (ν : Mem), s + m = 256 → frm [77] ν0 ν → (∀ t, t < s → ν 77 t = bI (prB K n t)) → TT X 17 [.ref 24, .int (nI n), .int (nI s)] [] ν := by
    intro m
    induction m with
    | zero =>
      intro s ν hs hf hv
      have hs : s = 256 := by omega
      subst hs
      have z : ν 24 0 = nI K := by rw [hf 24 (by decide)]; exact z0
      have harc := (arc_ok K (by omega) (by omega) 0 (by decide)).1
      refine tt_il2 (q := 18) hc dX9_make_17 rfl ?_
      refine tt_sipush (v := nI 256) (q := 21) hc (by decide) dX9_make_18 rfl ?_
      first | (with_reducible refine chk2 ?_; refine tt_icgeN (t := 82) (q := 24) hc (by omega) (by omega) dX9_make_21 rfl rfl (fun c_21 => ?_) (fun c_21 => ?_)) | refine tt_icge (t := 82) (q := 24) hc dX9_make_21 rfl rfl (fun c_21 => ?_) (fun c_21 => ?_)
      · refine tt_il1 (q := 83) hc dX9_make_82 rfl ?_
        refine tt_iconst (v := nI 1) (q := 84) hc rfl dX9_make_83 rfl ?_
        first | (with_reducible refine chk2 ?_; refine tt_icneN (t := 98) (q := 87) hc (by omega) (by omega) dX9_make_84 rfl rfl (fun c_84 => ?_) (fun c_84 => ?_)) | refine tt_icne (t := 98) (q := 87) hc dX9_make_84 rfl rfl (fun c_84 => ?_) (fun c_84 => ?_)
        · refine tt_iconst (v := nI 0) (q := 99) hc rfl dX9_make_98 rfl ?_
          refine tt_is2 (q := 100) hc dX9_make_99 rfl (by decide) ?_
          first
          | (have z1 : ¬ n = 1 := c_84
             refine L2 (nRn K n) 0 ν (by omega) hf (fun t ht => ?_)
             rw [hv t ht, bsB, insR, decide_eq_false z1, Bool.false_and, Bool.or_false, Bool.or_false])
          | (have z1 : n = 1 := c_84
             refine L2 (nRn K n) 0 _ (by omega) (hf.tr frm.set) (fun t ht => ?_)
             rw [mset_eq, bsB, insR, decide_eq_true z1, Bool.true_and, Bool.or_false]
             by_cases e : t = arcN K 0
             · subst e
               rw [pk_us, decide_eq_true rfl, Bool.or_true]
               rfl
             · rw [pk_un e, hv t ht, decide_eq_false e, Bool.or_false])
        · refine tt_al0 (q := 88) hc dX9_make_87 rfl ?_
          refine tt_getR (q := 91) hc fl_X9_15 (by first | assumption | exact ⟨by decide, _, rfl, rfl⟩) dX9_make_88 rfl ?_
          refine tt_al0 (q := 92) hc dX9_make_91 rfl ?_
          refine tt_iconst (v := nI 0) (q := 93) hc rfl dX9_make_92 rfl ?_
          refine tt_cV1 (q := 96) (d' := 0) (ci := 9) hc (by first | decide | omega) kmX9_run ml_X9_137 (by first | assumption | exact ⟨by decide, _, rfl⟩) rfl (Nat.le_of_ble_eq_true rfl) dX9_make_93 rfl ?_
          refine c_X9_run hK z (by decide) ?_
          dsimp only [Option.toList, List.nil_append, List.cons_append]
          refine tt_iconst (v := nI 1) (q := 97) hc rfl dX9_make_96 rfl ?_
          refine tt_zast (q := 98) hc (by first | assumption | exact ⟨by decide, rfl, by decide⟩) (by omega) (by first | decide | exact bI_01 _) dX9_make_97 rfl ?_
          refine tt_iconst (v := nI 0) (q := 99) hc rfl dX9_make_98 rfl ?_
          refine tt_is2 (q := 100) hc dX9_make_99 rfl (by decide) ?_
          first
          | (have z1 : ¬ n = 1 := c_84
             refine L2 (nRn K n) 0 ν (by omega) hf (fun t ht => ?_)
             rw [hv t ht, bsB, insR, decide_eq_false z1, Bool.false_and, Bool.or_false, Bool.or_false])
          | (have z1 : n = 1 := c_84
             refine L2 (nRn K n) 0 _ (by omega) (hf.tr frm.set) (fun t ht => ?_)
             rw [mset_eq, bsB, insR, decide_eq_true z1, Bool.true_and, Bool.or_false]
             by_cases e : t = arcN K 0
             · subst e
               rw [pk_us, decide_eq_true rfl, Bool.or_true]
               rfl
             · rw [pk_un e, hv t ht, decide_eq_false e, Bool.or_false])
      · omega
    | succ m ih =>
      intro s ν hs hf hv
      have z : ν 24 0 = nI K := by rw [hf 24 (by decide)]; exact z0
      have hp := pop_le s (by omega)
      have E : ∀ v, v = bI (prB K n s) → TT X 75 [.ref 24, .int (nI n), .int (nI s)] [.int v, .int (nI s), .ref 77] ν := by
        intro v hv2
        have hv01 : v = 0 ∨ v = 1 := by rw [hv2]; exact bI_01 _
        refine tt_zast (q := 76) hc a77 (by omega) hv01 dX9_make_75 rfl ?_
        first | refine tt_inc2 (q := 79) hc dX9_make_76 rfl (by decide) (incN _) ?_ | refine tt_inc2 (q := 79) hc dX9_make_76 rfl (by decide) rfl ?_
        refine tt_goto (t := 17) hc dX9_make_79 rfl ?_
        refine ih (s + 1) _ (by omega) (hf.tr frm.set) (fun t ht => ?_)
        rw [mset_eq]
        by_cases e : t = s
        · subst e
          rw [pk_us]
          exact hv2
        · rw [pk_un e]
          exact hv t (by omega)
      refine tt_il2 (q := 18) hc dX9_make_17 rfl ?_
      refine tt_sipush (v := nI 256) (q := 21) hc (by decide) dX9_make_18 rfl ?_
      first | (with_reducible refine chk2 ?_; refine tt_icgeN (t := 82) (q := 24) hc (by omega) (by omega) dX9_make_21 rfl rfl (fun c_21 => ?_) (fun c_21 => ?_)) | refine tt_icge (t := 82) (q := 24) hc dX9_make_21 rfl rfl (fun c_21 => ?_) (fun c_21 => ?_)
      · omega
      · refine tt_al0 (q := 25) hc dX9_make_24 rfl ?_
        refine tt_getR (q := 28) hc fl_X9_15 (by first | assumption | exact ⟨by decide, _, rfl, rfl⟩) dX9_make_25 rfl ?_
        refine tt_il2 (q := 29) hc dX9_make_28 rfl ?_
        refine tt_il1 (q := 30) hc dX9_make_29 rfl ?_
        refine tt_iconst (v := nI 2) (q := 31) hc rfl dX9_make_30 rfl ?_
        first | (with_reducible refine chk2 ?_; refine tt_icneN (t := 57) (q := 34) hc (by omega) (by omega) dX9_make_31 rfl rfl (fun c_31 => ?_) (fun c_31 => ?_)) | refine tt_icne (t := 57) (q := 34) hc dX9_make_31 rfl rfl (fun c_31 => ?_) (fun c_31 => ?_)
        · refine tt_il1 (q := 58) hc dX9_make_57 rfl ?_
          refine tt_iconst (v := nI 5) (q := 59) hc rfl dX9_make_58 rfl ?_
          first | (with_reducible refine chk2 ?_; refine tt_icneN (t := 74) (q := 62) hc (by omega) (by omega) dX9_make_59 rfl rfl (fun c_59 => ?_) (fun c_59 => ?_)) | refine tt_icne (t := 74) (q := 62) hc dX9_make_59 rfl rfl (fun c_59 => ?_) (fun c_59 => ?_)
          · refine tt_iconst (v := nI 0) (q := 75) hc rfl dX9_make_74 rfl ?_
            first
            | exact E _ (bIt (prB_1 c_31 c_42 c_54))
            | exact E _ (bIt (prB_2 c_59 c_67))
            | exact E _ (bIf (prB_0 (fun z => c_31 z.1) (fun z => c_59 z.1)))
            | exact E _ (bIf (prB_0 (fun z => c_31 z.1) (fun z => Bool.false_ne_true (c_67.symm.trans z.2))))
            | exact E _ (bIf (prB_0 (fun z => c_42 z.2.1) (fun z => c_59 z.1)))
            | exact E _ (bIf (prB_0 (fun z => c_42 z.2.1) (fun z => Bool.false_ne_true (c_67.symm.trans z.2))))
            | exact E _ (bIf (prB_0 (fun z => Nat.not_lt.mpr c_54 z.2.2) (fun z => c_59 z.1)))
            | exact E _ (bIf (prB_0 (fun z => Nat.not_lt.mpr c_54 z.2.2) (fun z => Bool.false_ne_true (c_67.symm.trans z.2))))
          · refine tt_al0 (q := 63) hc dX9_make_62 rfl ?_
            refine tt_il2 (q := 64) hc dX9_make_63 rfl ?_
            refine tt_cV1 (q := 67) (d' := 3) (ci := 9) hc (by first | decide | omega) kmX9_isCross ml_X9_133 (by first | assumption | exact ⟨by decide, _, rfl⟩) rfl (Nat.le_of_ble_eq_true rfl) dX9_make_64 rfl ?_
            refine c_X9_isCross hK z (by omega) ?_
            dsimp only [Option.toList, List.nil_append, List.cons_append]
            first | (with_reducible refine chkb ?_; refine tt_ifeqB (t := 74) (q := 70) hc dX9_make_67 rfl rfl (fun c_67 => ?_) (fun c_67 => ?_)) | (with_reducible refine chk1 ?_; refine tt_ifeqN (t := 74) (q := 70) hc (by omega) dX9_make_67 rfl rfl (fun c_67 => ?_) (fun c_67 => ?_)) | refine tt_ifeq (t := 74) (q := 70) hc dX9_make_67 rfl rfl (fun c_67 => ?_) (fun c_67 => ?_)
            · refine tt_iconst (v := nI 0) (q := 75) hc rfl dX9_make_74 rfl ?_
              first
              | exact E _ (bIt (prB_1 c_31 c_42 c_54))
              | exact E _ (bIt (prB_2 c_59 c_67))
              | exact E _ (bIf (prB_0 (fun z => c_31 z.1) (fun z => c_59 z.1)))
              | exact E _ (bIf (prB_0 (fun z => c_31 z.1) (fun z => Bool.false_ne_true (c_67.symm.trans z.2))))
              | exact E _ (bIf (prB_0 (fun z => c_42 z.2.1) (fun z => c_59 z.1)))
              | exact E _ (bIf (prB_0 (fun z => c_42 z.2.1) (fun z => Bool.false_ne_true (c_67.symm.trans z.2))))
              | exact E _ (bIf (prB_0 (fun z => Nat.not_lt.mpr c_54 z.2.2) (fun z => c_59 z.1)))
              | exact E _ (bIf (prB_0 (fun z => Nat.not_lt.mpr c_54 z.2.2) (fun z => Bool.false_ne_true (c_67.symm.trans z.2))))
            · refine tt_iconst (v := nI 1) (q := 71) hc rfl dX9_make_70 rfl ?_
              refine tt_goto (t := 75) hc dX9_make_71 rfl ?_
              first
              | exact E _ (bIt (prB_1 c_31 c_42 c_54))
              | exact E _ (bIt (prB_2 c_59 c_67))
              | exact E _ (bIf (prB_0 (fun z => c_31 z.1) (fun z => c_59 z.1)))
              | exact E _ (bIf (prB_0 (fun z => c_31 z.1) (fun z => Bool.false_ne_true (c_67.symm.trans z.2))))
              | exact E _ (bIf (prB_0 (fun z => c_42 z.2.1) (fun z => c_59 z.1)))
              | exact E _ (bIf (prB_0 (fun z => c_42 z.2.1) (fun z => Bool.false_ne_true (c_67.symm.trans z.2))))
              | exact E _ (bIf (prB_0 (fun z => Nat.not_lt.mpr c_54 z.2.2) (fun z => c_59 z.1)))
              | exact E _ (bIf (prB_0 (fun z => Nat.not_lt.mpr c_54 z.2.2) (fun z => Bool.false_ne_true (c_67.symm.trans z.2))))
        · refine tt_il2 (q := 35) hc dX9_make_34 rfl ?_
          refine tt_cS1 (q := 38) (d' := 1) hc (by first | decide | omega) kmX9_many ml_X9_110 (Nat.le_of_ble_eq_true rfl) dX9_make_35 rfl ?_
          refine c_X9_many ?_
          dsimp only [Option.toList, List.nil_append, List.cons_append]
          refine tt_al0 (q := 39) hc dX9_make_38 rfl ?_
          refine tt_getI (q := 42) hc fl_X9_9 (by first | assumption | exact ⟨by decide, _, rfl, _, rfl⟩) dX9_make_39 rfl ?_
          rw [z]
          first | (with_reducible refine chk2 ?_; refine tt_icneN (t := 57) (q := 45) hc (by omega) (by omega) dX9_make_42 rfl rfl (fun c_42 => ?_) (fun c_42 => ?_)) | refine tt_icne (t := 57) (q := 45) hc dX9_make_42 rfl rfl (fun c_42 => ?_) (fun c_42 => ?_)
          · refine tt_il1 (q := 58) hc dX9_make_57 rfl ?_
            refine tt_iconst (v := nI 5) (q := 59) hc rfl dX9_make_58 rfl ?_
            first | (with_reducible refine chk2 ?_; refine tt_icneN (t := 74) (q := 62) hc (by omega) (by omega) dX9_make_59 rfl rfl (fun c_59 => ?_) (fun c_59 => ?_)) | refine tt_icne (t := 74) (q := 62) hc dX9_make_59 rfl rfl (fun c_59 => ?_) (fun c_59 => ?_)
            · refine tt_iconst (v := nI 0) (q := 75) hc rfl dX9_make_74 rfl ?_
              first
              | exact E _ (bIt (prB_1 c_31 c_42 c_54))
              | exact E _ (bIt (prB_2 c_59 c_67))
              | exact E _ (bIf (prB_0 (fun z => c_31 z.1) (fun z => c_59 z.1)))
              | exact E _ (bIf (prB_0 (fun z => c_31 z.1) (fun z => Bool.false_ne_true (c_67.symm.trans z.2))))
              | exact E _ (bIf (prB_0 (fun z => c_42 z.2.1) (fun z => c_59 z.1)))
              | exact E _ (bIf (prB_0 (fun z => c_42 z.2.1) (fun z => Bool.false_ne_true (c_67.symm.trans z.2))))
              | exact E _ (bIf (prB_0 (fun z => Nat.not_lt.mpr c_54 z.2.2) (fun z => c_59 z.1)))
              | exact E _ (bIf (prB_0 (fun z => Nat.not_lt.mpr c_54 z.2.2) (fun z => Bool.false_ne_true (c_67.symm.trans z.2))))
            · refine tt_al0 (q := 63) hc dX9_make_62 rfl ?_
              refine tt_il2 (q := 64) hc dX9_make_63 rfl ?_
              refine tt_cV1 (q := 67) (d' := 3) (ci := 9) hc (by first | decide | omega) kmX9_isCross ml_X9_133 (by first | assumption | exact ⟨by decide, _, rfl⟩) rfl (Nat.le_of_ble_eq_true rfl) dX9_make_64 rfl ?_
              refine c_X9_isCross hK z (by omega) ?_
              dsimp only [Option.toList, List.nil_append, List.cons_append]
              first | (with_reducible refine chkb ?_; refine tt_ifeqB (t := 74) (q := 70) hc dX9_make_67 rfl rfl (fun c_67 => ?_) (fun c_67 => ?_)) | (with_reducible refine chk1 ?_; refine tt_ifeqN (t := 74) (q := 70) hc (by omega) dX9_make_67 rfl rfl (fun c_67 => ?_) (fun c_67 => ?_)) | refine tt_ifeq (t := 74) (q := 70) hc dX9_make_67 rfl rfl (fun c_67 => ?_) (fun c_67 => ?_)
              · refine tt_iconst (v := nI 0) (q := 75) hc rfl dX9_make_74 rfl ?_
                first
                | exact E _ (bIt (prB_1 c_31 c_42 c_54))
                | exact E _ (bIt (prB_2 c_59 c_67))
                | exact E _ (bIf (prB_0 (fun z => c_31 z.1) (fun z => c_59 z.1)))
                | exact E _ (bIf (prB_0 (fun z => c_31 z.1) (fun z => Bool.false_ne_true (c_67.symm.trans z.2))))
                | exact E _ (bIf (prB_0 (fun z => c_42 z.2.1) (fun z => c_59 z.1)))
                | exact E _ (bIf (prB_0 (fun z => c_42 z.2.1) (fun z => Bool.false_ne_true (c_67.symm.trans z.2))))
                | exact E _ (bIf (prB_0 (fun z => Nat.not_lt.mpr c_54 z.2.2) (fun z => c_59 z.1)))
                | exact E _ (bIf (prB_0 (fun z => Nat.not_lt.mpr c_54 z.2.2) (fun z => Bool.false_ne_true (c_67.symm.trans z.2))))
              · refine tt_iconst (v := nI 1) (q := 71) hc rfl dX9_make_70 rfl ?_
                refine tt_goto (t := 75) hc dX9_make_71 rfl ?_
                first
                | exact E _ (bIt (prB_1 c_31 c_42 c_54))
                | exact E _ (bIt (prB_2 c_59 c_67))
                | exact E _ (bIf (prB_0 (fun z => c_31 z.1) (fun z => c_59 z.1)))
                | exact E _ (bIf (prB_0 (fun z => c_31 z.1) (fun z => Bool.false_ne_true (c_67.symm.trans z.2))))
                | exact E _ (bIf (prB_0 (fun z => c_42 z.2.1) (fun z => c_59 z.1)))
                | exact E _ (bIf (prB_0 (fun z => c_42 z.2.1) (fun z => Bool.false_ne_true (c_67.symm.trans z.2))))
                | exact E _ (bIf (prB_0 (fun z => Nat.not_lt.mpr c_54 z.2.2) (fun z => c_59 z.1)))
                | exact E _ (bIf (prB_0 (fun z => Nat.not_lt.mpr c_54 z.2.2) (fun z => Bool.false_ne_true (c_67.symm.trans z.2))))
          · refine tt_il2 (q := 46) hc dX9_make_45 rfl ?_
            refine tt_iconst (v := nI 1) (q := 47) hc rfl dX9_make_46 rfl ?_
            refine tt_al0 (q := 48) hc dX9_make_47 rfl ?_
            refine tt_getI (q := 51) hc fl_X9_9 (by first | assumption | exact ⟨by decide, _, rfl, _, rfl⟩) dX9_make_48 rfl ?_
            rw [z]
            refine tt_iconst (v := nI 1) (q := 52) hc rfl dX9_make_51 rfl ?_
            first | (with_reducible refine chk2 ?_; refine tt_iaddN (q := 53) hc dX9_make_52 rfl ?_) | refine tt_iadd (q := 53) hc dX9_make_52 rfl ?_
            first | (with_reducible refine chks ?_; refine tt_ishl1 (q := 54) hc (by omega) dX9_make_53 rfl ?_) | (with_reducible refine chk2 ?_; refine tt_ishlN (q := 54) hc (by omega) (by omega) dX9_make_53 rfl ?_) | refine tt_ishl (q := 54) hc dX9_make_53 rfl ?_
            first | (with_reducible refine chk2 ?_; refine tt_icltN (t := 70) (q := 57) hc (by omega) (by omega) dX9_make_54 rfl rfl (fun c_54 => ?_) (fun c_54 => ?_)) | refine tt_iclt (t := 70) (q := 57) hc dX9_make_54 rfl rfl (fun c_54 => ?_) (fun c_54 => ?_)
            · refine tt_iconst (v := nI 1) (q := 71) hc rfl dX9_make_70 rfl ?_
              refine tt_goto (t := 75) hc dX9_make_71 rfl ?_
              first
              | exact E _ (bIt (prB_1 c_31 c_42 c_54))
              | exact E _ (bIt (prB_2 c_59 c_67))
              | exact E _ (bIf (prB_0 (fun z => c_31 z.1) (fun z => c_59 z.1)))
              | exact E _ (bIf (prB_0 (fun z => c_31 z.1) (fun z => Bool.false_ne_true (c_67.symm.trans z.2))))
              | exact E _ (bIf (prB_0 (fun z => c_42 z.2.1) (fun z => c_59 z.1)))
              | exact E _ (bIf (prB_0 (fun z => c_42 z.2.1) (fun z => Bool.false_ne_true (c_67.symm.trans z.2))))
              | exact E _ (bIf (prB_0 (fun z => Nat.not_lt.mpr c_54 z.2.2) (fun z => c_59 z.1)))
              | exact E _ (bIf (prB_0 (fun z => Nat.not_lt.mpr c_54 z.2.2) (fun z => Bool.false_ne_true (c_67.symm.trans z.2))))
            · refine tt_il1 (q := 58) hc dX9_make_57 rfl ?_
              refine tt_iconst (v := nI 5) (q := 59) hc rfl dX9_make_58 rfl ?_
              first | (with_reducible refine chk2 ?_; refine tt_icneN (t := 74) (q := 62) hc (by omega) (by omega) dX9_make_59 rfl rfl (fun c_59 => ?_) (fun c_59 => ?_)) | refine tt_icne (t := 74) (q := 62) hc dX9_make_59 rfl rfl (fun c_59 => ?_) (fun c_59 => ?_)
              · refine tt_iconst (v := nI 0) (q := 75) hc rfl dX9_make_74 rfl ?_
                first
                | exact E _ (bIt (prB_1 c_31 c_42 c_54))
                | exact E _ (bIt (prB_2 c_59 c_67))
                | exact E _ (bIf (prB_0 (fun z => c_31 z.1) (fun z => c_59 z.1)))
                | exact E _ (bIf (prB_0 (fun z => c_31 z.1) (fun z => Bool.false_ne_true (c_67.symm.trans z.2))))
                | exact E _ (bIf (prB_0 (fun z => c_42 z.2.1) (fun z => c_59 z.1)))
                | exact E _ (bIf (prB_0 (fun z => c_42 z.2.1) (fun z => Bool.false_ne_true (c_67.symm.trans z.2))))
                | exact E _ (bIf (prB_0 (fun z => Nat.not_lt.mpr c_54 z.2.2) (fun z => c_59 z.1)))
                | exact E _ (bIf (prB_0 (fun z => Nat.not_lt.mpr c_54 z.2.2) (fun z => Bool.false_ne_true (c_67.symm.trans z.2))))
              · refine tt_al0 (q := 63) hc dX9_make_62 rfl ?_
                refine tt_il2 (q := 64) hc dX9_make_63 rfl ?_
                refine tt_cV1 (q := 67) (d' := 3) (ci := 9) hc (by first | decide | omega) kmX9_isCross ml_X9_133 (by first | assumption | exact ⟨by decide, _, rfl⟩) rfl (Nat.le_of_ble_eq_true rfl) dX9_make_64 rfl ?_
                refine c_X9_isCross hK z (by omega) ?_
                dsimp only [Option.toList, List.nil_append, List.cons_append]
                first | (with_reducible refine chkb ?_; refine tt_ifeqB (t := 74) (q := 70) hc dX9_make_67 rfl rfl (fun c_67 => ?_) (fun c_67 => ?_)) | (with_reducible refine chk1 ?_; refine tt_ifeqN (t := 74) (q := 70) hc (by omega) dX9_make_67 rfl rfl (fun c_67 => ?_) (fun c_67 => ?_)) | refine tt_ifeq (t := 74) (q := 70) hc dX9_make_67 rfl rfl (fun c_67 => ?_) (fun c_67 => ?_)
                · refine tt_iconst (v := nI 0) (q := 75) hc rfl dX9_make_74 rfl ?_
                  first
                  | exact E _ (bIt (prB_1 c_31 c_42 c_54))
                  | exact E _ (bIt (prB_2 c_59 c_67))
                  | exact E _ (bIf (prB_0 (fun z => c_31 z.1) (fun z => c_59 z.1)))
                  | exact E _ (bIf (prB_0 (fun z => c_31 z.1) (fun z => Bool.false_ne_true (c_67.symm.trans z.2))))
                  | exact E _ (bIf (prB_0 (fun z => c_42 z.2.1) (fun z => c_59 z.1)))
                  | exact E _ (bIf (prB_0 (fun z => c_42 z.2.1) (fun z => Bool.false_ne_true (c_67.symm.trans z.2))))
                  | exact E _ (bIf (prB_0 (fun z => Nat.not_lt.mpr c_54 z.2.2) (fun z => c_59 z.1)))
                  | exact E _ (bIf (prB_0 (fun z => Nat.not_lt.mpr c_54 z.2.2) (fun z => Bool.false_ne_true (c_67.symm.trans z.2))))
                · refine tt_iconst (v := nI 1) (q := 71) hc rfl dX9_make_70 rfl ?_
                  refine tt_goto (t := 75) hc dX9_make_71 rfl ?_
                  first
                  | exact E _ (bIt (prB_1 c_31 c_42 c_54))
                  | exact E _ (bIt (prB_2 c_59 c_67))
                  | exact E _ (bIf (prB_0 (fun z => c_31 z.1) (fun z => c_59 z.1)))
                  | exact E _ (bIf (prB_0 (fun z => c_31 z.1) (fun z => Bool.false_ne_true (c_67.symm.trans z.2))))
                  | exact E _ (bIf (prB_0 (fun z => c_42 z.2.1) (fun z => c_59 z.1)))
                  | exact E _ (bIf (prB_0 (fun z => c_42 z.2.1) (fun z => Bool.false_ne_true (c_67.symm.trans z.2))))
                  | exact E _ (bIf (prB_0 (fun z => Nat.not_lt.mpr c_54 z.2.2) (fun z => c_59 z.1)))
                  | exact E _ (bIf (prB_0 (fun z => Nat.not_lt.mpr c_54 z.2.2) (fun z => Bool.false_ne_true (c_67.symm.trans z.2))))
  refine tt_iconst (v := nI 0) (q := 16) hc rfl dX9_make_15 rfl ?_
  refine tt_is2 (q := 17) hc dX9_make_16 rfl (by decide) ?_
  exact L1 256 0 ν0 rfl frm.rf (fun t ht => absurd ht (Nat.not_lt_zero _))
set_option maxHeartbeats 2000000 in
theorem c_X9_make {l : Launch} {k : Int32} {S : ST} {μ : Mem} {Q : Option Value → Mem → Prop} (hM : MR μ S) (hQ : ∀ μ', frm mL μ μ' → MR μ' (sp_make k S).2 → Q (some (.int (sp_make k S).1)) μ') : CC l 4 mX9_make [.ref 24, .int k] μ Q := by
  refine CC.of (M := mX9_make) (by decide +kernel) rfl (fun v h => by simp at h; rcases h with rfl | rfl <;> rfl) (Nat.le_of_ble_eq_true rfl) (fun X hX => ?_)
  have hc := hX.cx
  obtain ⟨K, B, hs, ks, im, ls, tx, pp⟩ := S
  obtain ⟨⟨a0, a1, a2⟩, a3, -⟩ := id hM
  have a77 := HA77
  have hK := a0.1
  dsimp only [sp_make] at hQ
  have M : ∀ (n : Nat), n ≤ 5 → k = nI n → inB (nI n) (nI 0) (nI 5) = true → TT X 11 [.ref 24, .int (nI n), .long 0] [] μ := by
    intro n hn hkn hin
    subst hkn
    rw [if_pos hin, nI_clamp (by omega)] at hQ
    have hmo := made_ok hK hn
    have F : ∀ (ν0 : Mem), mg stL [6] μ ν0 → MP ν0 K (nt B hs) → ∀ (ν : Mem) (w2 : Value), frm [77] ν0 ν → (∀ t, t < 256 → ν 77 t = bI (mkB K n t)) → TT X 144 [.ref 24, .int (nI n), w2] [] ν := by
      intro ν0 hf0 hP ν w2 hf hv
      have hB : BA ν 77 (made K n) := fun t ht => by rw [hv t ht, mk_made hK hn ht]
      have hm : mg (77 :: stL) [6] μ ν := (hf0.mono (fun i hi => List.mem_cons_of_mem _ hi) (fun i hi => hi)).tr ((mg.fr hf (by decide)).mono (fun i hi => by rw [List.mem_singleton.mp hi]; exact List.mem_cons_self) (fun i hi => hi))
      refine tt_al0 (q := 145) hc dX9_make_144 rfl ?_
      refine tt_getR (q := 148) hc fl_X9_15 (by first | assumption | exact ⟨by decide, _, rfl, rfl⟩) dX9_make_145 rfl ?_
      refine tt_cS1 (q := 151) (d' := 0) hc (by first | decide | omega) kmX9_bodiesOf ml_X9_140 (Nat.le_of_ble_eq_true rfl) dX9_make_148 rfl ?_
      refine c_X9_bodiesOf a77 hmo hB ?_
      dsimp only [Option.toList, List.nil_append, List.cons_append]
      refine tt_reti hX rfl dX9_make_151 ?_
      exact hQ ν (hm.ml (by decide)) (hM.step hm (hP.mg (mg.fr (p := [4]) hf (by decide)) (by decide) (by decide)) hmo hB)
    refine tt_al0 (q := 12) hc dX9_make_11 rfl ?_
    refine tt_cV0 (q := 15) (d' := 2) (ci := 9) hc (by first | decide | omega) kmX9_remembers ml_X9_130 (by first | assumption | exact ⟨by decide, _, rfl⟩) rfl (Nat.le_of_ble_eq_true rfl) dX9_make_12 rfl ?_
    refine c_X9_remembers a0 a2 a3 (fun ν0 hf0 hP => ?_)
    have z0 : ν0 24 0 = nI K := (hf0.2 0 (by decide)).trans a1
    dsimp only [Option.toList, List.nil_append, List.cons_append]
    exact make_loop hX hK hn ν0 z0 (F ν0 hf0 hP) _
  refine tt_il1 (q := 1) hc dX9_make_0 rfl ?_
  refine tt_iconst (v := nI 0) (q := 2) hc rfl dX9_make_1 rfl ?_
  refine tt_iconst (v := nI 5) (q := 3) hc rfl dX9_make_2 rfl ?_
  refine tt_cS3 (q := 6) (d' := 0) hc (by first | decide | omega) kmX9_in ml_X9_91 (Nat.le_of_ble_eq_true rfl) dX9_make_3 rfl ?_
  refine c_X9_in ?_
  dsimp only [Option.toList, List.nil_append, List.cons_append]
  first | (with_reducible refine chkb ?_; refine tt_ifneB (t := 11) (q := 9) hc dX9_make_6 rfl rfl (fun c_6 => ?_) (fun c_6 => ?_)) | (with_reducible refine chk1 ?_; refine tt_ifneN (t := 11) (q := 9) hc (by omega) dX9_make_6 rfl rfl (fun c_6 => ?_) (fun c_6 => ?_)) | refine tt_ifne (t := 11) (q := 9) hc dX9_make_6 rfl rfl (fun c_6 => ?_) (fun c_6 => ?_)
  · obtain ⟨n, -, hn, hkn⟩ := inB_t (by decide) (by decide) c_6
    have hin := c_6
    rw [hkn] at hin ⊢
    exact M n hn hkn hin
  · refine tt_iconst (v := -1) (q := 10) hc rfl dX9_make_9 rfl ?_
    refine tt_reti hX rfl dX9_make_10 ?_
    rw [if_neg (by rw [c_6]; exact Bool.false_ne_true)] at hQ
    exact hQ μ frm.rf hM
theorem wal_of {K s : Nat} {B : HP} (h : wal K B s = true) : cW B s = 1 ∧ pop s = K - 1 := by
  simpa [wal] using h
theorem FA.mg {μ ν : Mem} {B : HP} {l p : List Nat} (h : FA μ B) (hf : mg l p μ ν) (h26 : 26 ∉ l) (h78 : 78 ∉ l) (h4 : 4 ∉ p) : FA ν B := by
  unfold FA
  rw [hf.1 26 h26 (by decide), hf.1 78 h78 (by decide), hf.2 4 h4]
  exact h
set_option maxHeartbeats 2000000 in
theorem c_X9_cone {l : Launch} {p : Int32} {S : ST} {μ : Mem} {Q : Option Value → Mem → Prop} (hM : MR μ S) (hQ : ∀ μ', frm mL μ μ' → MR μ' (sp_cone p S).2 → Q (some (.int (sp_cone p S).1)) μ') : CC l 3 mX9_cone [.ref 24, .int p] μ Q := by
  refine CC.of (M := mX9_cone) (by decide +kernel) rfl (fun v h => by simp at h; rcases h with rfl | rfl <;> rfl) (Nat.le_of_ble_eq_true rfl) (fun X hX => ?_)
  have hc := hX.cx
  obtain ⟨K, B, hs, ks, im, ls, tx, pp⟩ := S
  obtain ⟨⟨a0, a1, a2⟩, a3, -⟩ := id hM
  have a77 := HA77
  have hK := a0.1
  dsimp only [sp_cone] at hQ
  have M : ∀ (n : Nat), n ≤ 7 → p = nI n → inB (nI n) (nI 0) (nI 7) = true → TT X 12 [.ref 24, .int (nI n), .long 0] [] μ := by
    intro n hn hpn hin
    subst hpn
    rw [if_pos hin, nI_clamp (by omega)] at hQ
    have hlt0 := lkP_lt B 0
    have hb1 : lkP B 0 / 2 ^ n &&& 1 ≤ 1 := Nat.and_le_right
    have hbit := bit_cut (x := lkP B 0) (q := n)
    rw [lkP_bit, Nat.zero_and, Nat.zero_or] at hbit
    have hp2 := p2_lt (show n < 8 by omega)
    have hb2 : (lkP B 0 / 2 ^ n &&& 1 = 1) ↔ 0 < cW B (2 ^ n) := by
      rw [hbit]
      simp
      omega
    have L : ∀ (ν0 : Mem), FA ν0 B → ν0 24 0 = nI K → ¬ 0 < cW B (2 ^ n) → (∀ ν, frm [77] ν0 ν → HOK K (coneB K B (2 ^ n) 255 1 B) → BA ν 77 (coneB K B (2 ^ n) 255 1 B) → Q (some (.int (nI (tot (coneB K B (2 ^ n) 255 1 B))))) ν) → ∀ (m s : Nat) (C : HP) (ν : Mem), s + m = 256 → 0 < s → coneB K B (2 ^ n) m s C = coneB K B (2 ^ n) 255 1 B → HOK K C → BA ν 77 C → frm [77] ν0 ν → (∀ t, C t = true → B t = true ∨ ∃ s', s' < s ∧ s' &&& 2 ^ n = 0 ∧ t = s' ||| 2 ^ n) → TT X 41 [.ref 24, .int (nI n), .int (nI s)] [] ν := by
      intro ν0 hF z0 hno h m
      induction m with
      | zero =>
        intro s C ν hs h0 hcb hC hB hf hJ
        rw [coneB] at hcb
        rw [← hcb] at h
        refine tt_il2 (q := 42) hc dX9_cone_41 rfl ?_
        refine tt_sipush (v := nI 256) (q := 45) hc (by decide) dX9_cone_42 rfl ?_
        first | (with_reducible refine chk2 ?_; refine tt_icgeN (t := 77) (q := 48) hc (by omega) (by omega) dX9_cone_45 rfl rfl (fun c_45 => ?_) (fun c_45 => ?_)) | refine tt_icge (t := 77) (q := 48) hc dX9_cone_45 rfl rfl (fun c_45 => ?_) (fun c_45 => ?_)
        · refine tt_al0 (q := 78) hc dX9_cone_77 rfl ?_
          refine tt_getR (q := 81) hc fl_X9_15 (by first | assumption | exact ⟨by decide, _, rfl, rfl⟩) dX9_cone_78 rfl ?_
          refine tt_cS1 (q := 84) (d' := 0) hc (by first | decide | omega) kmX9_bodiesOf ml_X9_140 (Nat.le_of_ble_eq_true rfl) dX9_cone_81 rfl ?_
          refine c_X9_bodiesOf a77 hC hB ?_
          dsimp only [Option.toList, List.nil_append, List.cons_append]
          refine tt_reti hX rfl dX9_cone_84 ?_
          exact h ν hf hC hB
        · omega
      | succ m ih =>
        intro s C ν hs h0 hcb hC hB hf hJ
        have hF1 := hF.fr hf (by decide) (by decide) (by decide)
        have z : ν 24 0 = nI K := by rw [hf 24 (by decide)]; exact z0
        have hor := or_lt (a := s) (b := 2 ^ n) (by omega) hp2
        rw [coneB] at hcb
        have W : wal K B s = true → s &&& 2 ^ n = 0 ∧ C (s ||| 2 ^ n) = false ∧ pop (s ||| 2 ^ n) = K := by
          intro hw
          obtain ⟨w1, w2⟩ := wal_of hw
          have hoff := pt_off (p := n) (show s < 256 by omega) (by omega) hno
          refine ⟨hoff, ?_, ?_⟩
          · cases e : C (s ||| 2 ^ n)
            · rfl
            · exfalso
              rcases hJ _ e with hb | ⟨s', h1, h2, h3⟩
              · exact hno (cW_pos.mpr ⟨_, hor, hb, sub_bits.mpr (fun i hi => by rw [Nat.testBit_or, hi, Bool.or_true])⟩)
              · have : s = s' := by
                  apply Nat.eq_of_testBit_eq
                  intro i
                  have g1 := congrArg (fun x => Nat.testBit x i) h3
                  simp only [Nat.testBit_or, Nat.testBit_two_pow] at g1
                  by_cases e2 : n = i
                  · subst e2
                    rw [no_p2.mp hoff, no_p2.mp h2]
                  · simpa [e2] using g1
                omega
          · rw [pop_or s (by omega) _ hp2 hoff, pop_two n (by omega), w2]
            omega
        refine tt_il2 (q := 42) hc dX9_cone_41 rfl ?_
        refine tt_sipush (v := nI 256) (q := 45) hc (by decide) dX9_cone_42 rfl ?_
        first | (with_reducible refine chk2 ?_; refine tt_icgeN (t := 77) (q := 48) hc (by omega) (by omega) dX9_cone_45 rfl rfl (fun c_45 => ?_) (fun c_45 => ?_)) | refine tt_icge (t := 77) (q := 48) hc dX9_cone_45 rfl rfl (fun c_45 => ?_) (fun c_45 => ?_)
        · omega
        · refine tt_al0 (q := 49) hc dX9_cone_48 rfl ?_
          refine tt_il2 (q := 50) hc dX9_cone_49 rfl ?_
          refine tt_al0 (q := 51) hc dX9_cone_50 rfl ?_
          refine tt_getI (q := 54) hc fl_X9_9 (by first | assumption | exact ⟨by decide, _, rfl, _, rfl⟩) dX9_cone_51 rfl ?_
          rw [z]
          refine tt_cV2 (q := 57) (d' := 2) (ci := 9) hc (by first | decide | omega) kmX9_isWall ml_X9_116 (by first | assumption | exact ⟨by decide, _, rfl⟩) rfl (Nat.le_of_ble_eq_true rfl) dX9_cone_54 rfl ?_
          refine c_X9_isWall hK hF1 h0 (by omega) ?_
          dsimp only [Option.toList, List.nil_append, List.cons_append]
          first | (with_reducible refine chkb ?_; refine tt_ifeqB (t := 71) (q := 60) hc dX9_cone_57 rfl rfl (fun c_57 => ?_) (fun c_57 => ?_)) | (with_reducible refine chk1 ?_; refine tt_ifeqN (t := 71) (q := 60) hc (by omega) dX9_cone_57 rfl rfl (fun c_57 => ?_) (fun c_57 => ?_)) | refine tt_ifeq (t := 71) (q := 60) hc dX9_cone_57 rfl rfl (fun c_57 => ?_) (fun c_57 => ?_)
          · first | refine tt_inc2 (q := 74) hc dX9_cone_71 rfl (by decide) (incN _) ?_ | refine tt_inc2 (q := 74) hc dX9_cone_71 rfl (by decide) rfl ?_
            refine tt_goto (t := 41) hc dX9_cone_74 rfl ?_
            first
            | (have w : wal K B s = false := c_57
               rw [if_neg (by rw [w]; exact Bool.false_ne_true)] at hcb
               exact ih (s + 1) C ν (by omega) (by omega) hcb hC hB hf (fun t ht => (hJ t ht).imp id (fun ⟨s', h1, h2⟩ => ⟨s', by omega, h2⟩)))
            | (have w : wal K B s = true := c_57
               obtain ⟨w1, w2, w3⟩ := W w
               rw [if_pos w] at hcb
               refine ih (s + 1) (tog C (s ||| 2 ^ n)) _ (by omega) (by omega) hcb (tog_ok hC hor w3) (tog_ba hB (by rw [w2]; rfl)) (hf.tr frm.set) (fun t ht => ?_)
               unfold tog at ht
               split at ht
               · rename_i e
                 exact Or.inr ⟨s, by omega, w1, e⟩
               · exact (hJ t ht).imp id (fun ⟨s', h1, h2⟩ => ⟨s', by omega, h2⟩))
          · refine tt_al0 (q := 61) hc dX9_cone_60 rfl ?_
            refine tt_getR (q := 64) hc fl_X9_15 (by first | assumption | exact ⟨by decide, _, rfl, rfl⟩) dX9_cone_61 rfl ?_
            refine tt_il2 (q := 65) hc dX9_cone_64 rfl ?_
            refine tt_iconst (v := nI 1) (q := 66) hc rfl dX9_cone_65 rfl ?_
            refine tt_il1 (q := 67) hc dX9_cone_66 rfl ?_
            first | (with_reducible refine chks ?_; refine tt_ishl1 (q := 68) hc (by omega) dX9_cone_67 rfl ?_) | (with_reducible refine chk2 ?_; refine tt_ishlN (q := 68) hc (by omega) (by omega) dX9_cone_67 rfl ?_) | refine tt_ishl (q := 68) hc dX9_cone_67 rfl ?_
            first | (with_reducible refine chk2 ?_; refine tt_iorN (q := 69) hc dX9_cone_68 rfl ?_) | refine tt_ior (q := 69) hc dX9_cone_68 rfl ?_
            refine tt_iconst (v := nI 1) (q := 70) hc rfl dX9_cone_69 rfl ?_
            refine tt_zast (q := 71) hc (by first | assumption | exact ⟨by decide, rfl, by decide⟩) (by omega) (by first | decide | exact bI_01 _) dX9_cone_70 rfl ?_
            first | refine tt_inc2 (q := 74) hc dX9_cone_71 rfl (by decide) (incN _) ?_ | refine tt_inc2 (q := 74) hc dX9_cone_71 rfl (by decide) rfl ?_
            refine tt_goto (t := 41) hc dX9_cone_74 rfl ?_
            first
            | (have w : wal K B s = false := c_57
               rw [if_neg (by rw [w]; exact Bool.false_ne_true)] at hcb
               exact ih (s + 1) C ν (by omega) (by omega) hcb hC hB hf (fun t ht => (hJ t ht).imp id (fun ⟨s', h1, h2⟩ => ⟨s', by omega, h2⟩)))
            | (have w : wal K B s = true := c_57
               obtain ⟨w1, w2, w3⟩ := W w
               rw [if_pos w] at hcb
               refine ih (s + 1) (tog C (s ||| 2 ^ n)) _ (by omega) (by omega) hcb (tog_ok hC hor w3) (tog_ba hB (by rw [w2]; rfl)) (hf.tr frm.set) (fun t ht => ?_)
               unfold tog at ht
               split at ht
               · rename_i e
                 exact Or.inr ⟨s, by omega, w1, e⟩
               · exact (hJ t ht).imp id (fun ⟨s', h1, h2⟩ => ⟨s', by omega, h2⟩))
    refine tt_al0 (q := 13) hc dX9_cone_12 rfl ?_
    refine tt_al0 (q := 14) hc dX9_cone_13 rfl ?_
    refine tt_getR (q := 17) hc fl_X9_15 (by first | assumption | exact ⟨by decide, _, rfl, rfl⟩) dX9_cone_14 rfl ?_
    refine tt_cV1 (q := 20) (d' := 0) (ci := 9) hc (by first | decide | omega) kmX9_layFaces ml_X9_150 (by first | assumption | exact ⟨by decide, _, rfl⟩) rfl (Nat.le_of_ble_eq_true rfl) dX9_cone_17 rfl ?_
    refine c_X9_layFaces a77 (by decide) a0 a2 (fun ν hf hF => ?_)
    have e4 : ν 24 4 = nI (lkP B 0) := by rw [hF.2.2, orB_lkP]
    have hM1 := hM.wk hf (by decide)
    dsimp only [Option.toList, List.nil_append, List.cons_append]
    refine tt_al0 (q := 21) hc dX9_cone_20 rfl ?_
    refine tt_getI (q := 24) hc fl_X9_107 (by first | assumption | exact ⟨by decide, _, rfl, _, rfl⟩) dX9_cone_21 rfl ?_
    rw [e4]
    refine tt_il1 (q := 25) hc dX9_cone_24 rfl ?_
    first | (with_reducible refine chk2 ?_; refine tt_ishrN (q := 26) hc (by omega) (by omega) dX9_cone_25 rfl ?_) | refine tt_ishr (q := 26) hc dX9_cone_25 rfl ?_
    refine tt_iconst (v := nI 1) (q := 27) hc rfl dX9_cone_26 rfl ?_
    first | (with_reducible refine chk2 ?_; refine tt_iandN (q := 28) hc dX9_cone_27 rfl ?_) | (with_reducible refine chkan ?_; refine tt_iandnN (q := 28) hc dX9_cone_27 rfl ?_) | (with_reducible refine chkna ?_; refine tt_inandN (q := 28) hc dX9_cone_27 rfl ?_) | refine tt_iand (q := 28) hc dX9_cone_27 rfl ?_
    refine tt_iconst (v := nI 1) (q := 29) hc rfl dX9_cone_28 rfl ?_
    first | (with_reducible refine chk2 ?_; refine tt_icneN (t := 35) (q := 32) hc (by omega) (by omega) dX9_cone_29 rfl rfl (fun c_29 => ?_) (fun c_29 => ?_)) | refine tt_icne (t := 35) (q := 32) hc dX9_cone_29 rfl rfl (fun c_29 => ?_) (fun c_29 => ?_)
    · rw [if_neg (fun y => c_29 (hb2.mpr y))] at hQ
      refine tt_al0 (q := 36) hc dX9_cone_35 rfl ?_
      refine tt_cV0 (q := 39) (d' := 2) (ci := 9) hc (by first | decide | omega) kmX9_remembers ml_X9_130 (by first | assumption | exact ⟨by decide, _, rfl⟩) rfl (Nat.le_of_ble_eq_true rfl) dX9_cone_36 rfl ?_
      refine c_X9_remembers a0 hM1.1.2.2 hM1.2.1 (fun ν1 hf1 hP => ?_)
      dsimp only [Option.toList, List.nil_append, List.cons_append]
      refine tt_iconst (v := nI 1) (q := 40) hc rfl dX9_cone_39 rfl ?_
      refine tt_is2 (q := 41) hc dX9_cone_40 rfl (by decide) ?_
      refine L ν1 (hF.mg hf1 (by decide) (by decide) (by decide)) ((hf1.2 0 (by decide)).trans hM1.1.2.1) (fun y => c_29 (hb2.mpr y)) (fun ν2 hf2 hC hB2 => ?_) 255 1 B ν1 rfl (by decide) rfl a0 (hM1.1.2.2.mg hf1 (by decide) (by decide)) frm.rf (fun t ht => Or.inl ht)
      have hm2 : mg (77 :: stL) [6] ν ν2 := (hf1.mono (fun i hi => List.mem_cons_of_mem _ hi) (fun i hi => hi)).tr ((mg.fr hf2 (by decide)).mono (fun i hi => by rw [List.mem_singleton.mp hi]; exact List.mem_cons_self) (fun i hi => hi))
      exact hQ ν2 ((hf.ml (by decide)).tr (hm2.ml (by decide))) (hM1.step hm2 (hP.mg (mg.fr (p := [4]) hf2 (by decide)) (by decide) (by decide)) hC hB2)
    · refine tt_bipush (v := -3) (q := 34) hc (by decide) dX9_cone_32 rfl ?_
      refine tt_reti hX rfl dX9_cone_34 ?_
      rw [if_pos (hb2.mp c_29)] at hQ
      exact hQ ν (hf.ml (by decide)) hM1
  refine tt_il1 (q := 1) hc dX9_cone_0 rfl ?_
  refine tt_iconst (v := nI 0) (q := 2) hc rfl dX9_cone_1 rfl ?_
  refine tt_bipush (v := nI 7) (q := 4) hc (by decide) dX9_cone_2 rfl ?_
  refine tt_cS3 (q := 7) (d' := 0) hc (by first | decide | omega) kmX9_in ml_X9_91 (Nat.le_of_ble_eq_true rfl) dX9_cone_4 rfl ?_
  refine c_X9_in ?_
  dsimp only [Option.toList, List.nil_append, List.cons_append]
  first | (with_reducible refine chkb ?_; refine tt_ifneB (t := 12) (q := 10) hc dX9_cone_7 rfl rfl (fun c_7 => ?_) (fun c_7 => ?_)) | (with_reducible refine chk1 ?_; refine tt_ifneN (t := 12) (q := 10) hc (by omega) dX9_cone_7 rfl rfl (fun c_7 => ?_) (fun c_7 => ?_)) | refine tt_ifne (t := 12) (q := 10) hc dX9_cone_7 rfl rfl (fun c_7 => ?_) (fun c_7 => ?_)
  · obtain ⟨n, -, hn, hpn⟩ := inB_t (by decide) (by decide) c_7
    have hin := c_7
    rw [hpn] at hin ⊢
    exact M n hn hpn hin
  · refine tt_iconst (v := -1) (q := 11) hc rfl dX9_cone_10 rfl ?_
    refine tt_reti hX rfl dX9_cone_11 ?_
    rw [if_neg (by rw [c_7]; exact Bool.false_ne_true)] at hQ
    exact hQ μ frm.rf hM
