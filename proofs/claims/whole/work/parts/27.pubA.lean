/-! THE CLASS: its state, and what each call answers -/
abbrev HP : Type := Nat → Bool
/-- K, bodies, heaps before the latest steps, kept heaps, image, lists, text, paper -/
abbrev ST : Type := Nat × HP × List HP × List (Nat × HP) × Option (Nat × HP × List (Nat × HP)) × (Nat → Option (List Int32)) × List Nat × List Nat
def IMc (μ : Mem) (im : Option (Nat × HP × List (Nat × HP))) (ks : List (Nat × HP)) : Prop := match im with
  | none => μ 0 7 = 0
  | some (K, B, k') => μ 0 7 = 1 ∧ RC μ 2 K B ∧ μ 0 6 = nI k'.length ∧ ks.take k'.length = k'
def PPc (μ : Mem) (pp : List Nat) : Prop := pp.length ≤ 349 ∧ μ 0 14 = nI pp.length ∧ ∀ i b, pp[i]? = some b → μ 23 i = nI b
def CR (μ : Mem) (S : ST) : Prop := match S with
  | (K, B, hs, ks, im, ls, tx, pp) => RC μ 0 K B ∧ PR μ K hs ∧ SR μ ks ∧ IMc μ im ks ∧ LR μ ls ∧ XR μ tx ∧ PPc μ pp
/-- the class's cells -/
def cL : List Nat := List.range' 0 24 ++ List.range' 40 32
/-- its cells for work alone -/
def wkL : List Nat := [1, 6, 7, 8, 9, 10, 11, 12, 13, 14, 20, 21, 22, 42, 43, 46, 47]
theorem cL_in {i : Nat} (h : i < 24 ∨ (40 ≤ i ∧ i < 72)) : i ∈ cL := by
  unfold cL
  rw [List.mem_append, List.mem_range'_1, List.mem_range'_1]
  omega
theorem frm.cl {l : List Nat} {μ μ' : Mem} (h : frm l μ μ') (hl : l.all (fun i => decide (i < 24 ∨ (40 ≤ i ∧ i < 72))) = true) : frm cL μ μ' := h.mono (fun i hi => cL_in (by have := List.all_eq_true.mp hl i hi; simpa using this))
/-- the cells but those of the lists, the text and the paper -/
def cO : List Nat := List.range' 0 15 ++ List.range' 40 32
theorem cO_in {i : Nat} (h : i < 15 ∨ (40 ≤ i ∧ i < 72)) : i ∈ cO := by
  unfold cO
  rw [List.mem_append, List.mem_range'_1, List.mem_range'_1]
  omega
theorem frm.co {l : List Nat} {μ μ' : Mem} (h : frm l μ μ') (hl : l.all (fun i => decide (i < 15 ∨ (40 ≤ i ∧ i < 72))) = true) : frm cO μ μ' := h.mono (fun i hi => cO_in (by have := List.all_eq_true.mp hl i hi; simpa using this))
theorem IMc.frm {μ μ' : Mem} {im : Option (Nat × HP × List (Nat × HP))} {ks : List (Nat × HP)} {l : List Nat} (h : IMc μ im ks) (hf : frm l μ μ') (h0 : 0 ∉ l) (h1 : 44 ∉ l) (h2 : 45 ∉ l) : IMc μ' im ks := by
  have e0 := hf 0 h0
  cases im with
  | none =>
    show μ' 0 7 = 0
    rw [e0]
    exact h
  | some x =>
    obtain ⟨K, B, k'⟩ := x
    exact ⟨by rw [e0]; exact h.1, h.2.1.frm hf h1 h2, by rw [e0]; exact h.2.2.1, h.2.2.2⟩
theorem PPc.frm {μ μ' : Mem} {pp : List Nat} {l : List Nat} (h : PPc μ pp) (hf : frm l μ μ') (h0 : 0 ∉ l) (h1 : 23 ∉ l) : PPc μ' pp := by
  have e0 := hf 0 h0
  have e1 := hf 23 h1
  exact ⟨h.1, by rw [e0]; exact h.2.1, by rw [e1]; exact h.2.2⟩
theorem CR.wk {μ μ' : Mem} {S : ST} {l : List Nat} (h : CR μ S) (hf : frm l μ μ') (hl : l.all (fun i => decide (i ∈ wkL)) = true) : CR μ' S := by
  obtain ⟨K, B, hs, ks, im, ls, tx, pp⟩ := S
  obtain ⟨a1, a2, a3, a4, a5, a6, a7⟩ := h
  have hf := hf.mono (l' := wkL) (fun i hi => by have := List.all_eq_true.mp hl i hi; simpa using this)
  exact ⟨a1.frm hf (by decide) (by decide), a2.frm hf (by decide), a3.frm hf (by decide), a4.frm hf (by decide) (by decide) (by decide), a5.frm hf (by decide) (by decide), a6.frm hf (by decide) (by decide), a7.frm hf (by decide) (by decide)⟩
def sp_bodies (k : Int32) (S : ST) : Int32 × ST := match S with
  | (K, B, hs, ks, im, ls, tx, pp) => if inB k (nI 3) (nI 4) = true then (nI K, (k.toNatClampNeg, fun _ => false, [], ks, im, ls, tx, pp)) else (-2, S)
theorem inB_34 {k : Int32} (h : k = nI 3 ∨ k = nI 4) : inB k (nI 3) (nI 4) = true ∧ (k.toNatClampNeg = 3 ∨ k.toNatClampNeg = 4) ∧ k = nI k.toNatClampNeg := by
  rcases h with rfl | rfl <;> decide
theorem inB_34f {k : Int32} (h1 : ¬ k = nI 3) (h2 : ¬ k = nI 4) : ¬ inB k (nI 3) (nI 4) = true := by
  intro z
  obtain ⟨n, a, b, e⟩ := inB_t (by decide) (by decide) z
  rcases (show n = 3 ∨ n = 4 by omega) with rfl | rfl
  · exact h1 e
  · exact h2 e
set_option maxHeartbeats 4000000 in
theorem c_X8_bodies {l : Launch} {k : Int32} {S : ST} {μ : Mem} {Q : Option Value → Mem → Prop} (hC : CR μ S) (hQ : ∀ μ', frm cO μ μ' → CR μ' (sp_bodies k S).2 → Q (some (.int (sp_bodies k S).1)) μ') : CC l 1 mX8_bodies [.ref 0, .int k] μ Q := by
  refine CC.of (M := mX8_bodies) (by decide +kernel) rfl (fun v h => by simp at h; rcases h with rfl | rfl <;> rfl) (Nat.le_of_ble_eq_true rfl) (fun X hX => ?_)
  have hc := hX.cx
  obtain ⟨K, B, hs, ks, im, ls, tx, pp⟩ := S
  have hC' := hC
  obtain ⟨a1, a2, a3, a4, a5, a6, a7⟩ := hC
  rw [sp_bodies] at hQ
  refine tt_il1 (q := 1) hc dX8_bodies_0 rfl ?_
  refine tt_iconst (v := nI 3) (q := 2) hc rfl dX8_bodies_1 rfl ?_
  first | (with_reducible refine chk2 ?_; refine tt_iceqN (t := 13) (q := 5) hc (by omega) (by omega) dX8_bodies_2 rfl rfl (fun c_2 => ?_) (fun c_2 => ?_)) | refine tt_iceq (t := 13) (q := 5) hc dX8_bodies_2 rfl rfl (fun c_2 => ?_) (fun c_2 => ?_)
  · have hk := inB_34 (by first | exact Or.inl c_2 | exact Or.inr c_7)
    rw [if_pos hk.1] at hQ
    generalize hkn : k.toNatClampNeg = kn at hQ hk
    obtain ⟨-, hk2, rfl⟩ := hk
    refine tt_al0 (q := 14) hc dX8_bodies_13 rfl ?_
    refine tt_getR (q := 17) hc fl_X8_12 (by first | assumption | exact ⟨by decide, _, rfl, rfl⟩) dX8_bodies_14 rfl ?_
    refine tt_getI (q := 20) hc fl_X8_81 (by first | assumption | exact ⟨by decide, _, rfl, _, rfl⟩) dX8_bodies_17 rfl ?_
    rw [a1.2.1]
    refine tt_is2 (q := 21) hc dX8_bodies_20 rfl (by decide) ?_
    refine tt_al0 (q := 22) hc dX8_bodies_21 rfl ?_
    refine tt_getR (q := 25) hc fl_X8_12 (by first | assumption | exact ⟨by decide, _, rfl, rfl⟩) dX8_bodies_22 rfl ?_
    refine tt_il1 (q := 26) hc dX8_bodies_25 rfl ?_
    refine tt_cV1 (q := 29) (d' := 0) (ci := 0) hc (by first | decide | omega) kmX0_empty ml_X8_85 (by first | assumption | exact ⟨by decide, _, rfl⟩) rfl (Nat.le_of_ble_eq_true rfl) dX8_bodies_26 rfl ?_
    refine c_X0_empty (j := 0) (by decide) hk2 (fun ν hf hR => ?_)
    dsimp only [Option.toList, List.nil_append, List.cons_append]
    refine tt_al0 (q := 30) hc dX8_bodies_29 rfl ?_
    refine tt_getR (q := 33) hc fl_X8_28 (by first | assumption | exact ⟨by decide, _, rfl, rfl⟩) dX8_bodies_30 rfl ?_
    refine tt_cV0 (q := 36) (d' := 0) (ci := 2) hc (by first | decide | omega) kmX2_forget ml_X8_89 (by first | assumption | exact ⟨by decide, _, rfl⟩) rfl (Nat.le_of_ble_eq_true rfl) dX8_bodies_33 rfl ?_
    refine c_X2_forget (a2.frm hf (by decide)) (fun ν' hf' hP => ?_)
    dsimp only [Option.toList, List.nil_append, List.cons_append]
    refine tt_il2 (q := 37) hc dX8_bodies_36 rfl ?_
    refine tt_reti hX rfl dX8_bodies_37 ?_
    refine hQ ν' ((hf.co (by decide)).tr (hf'.co (by decide))) ⟨hR.frm hf' (by decide) (by decide), hP _, (a3.frm hf (by decide)).frm hf' (by decide), (a4.frm hf (by decide) (by decide) (by decide)).frm hf' (by decide) (by decide) (by decide), (a5.frm hf (by decide) (by decide)).frm hf' (by decide) (by decide), (a6.frm hf (by decide) (by decide)).frm hf' (by decide) (by decide), (a7.frm hf (by decide) (by decide)).frm hf' (by decide) (by decide)⟩
  · refine tt_il1 (q := 6) hc dX8_bodies_5 rfl ?_
    refine tt_iconst (v := nI 4) (q := 7) hc rfl dX8_bodies_6 rfl ?_
    first | (with_reducible refine chk2 ?_; refine tt_iceqN (t := 13) (q := 10) hc (by omega) (by omega) dX8_bodies_7 rfl rfl (fun c_7 => ?_) (fun c_7 => ?_)) | refine tt_iceq (t := 13) (q := 10) hc dX8_bodies_7 rfl rfl (fun c_7 => ?_) (fun c_7 => ?_)
    · have hk := inB_34 (by first | exact Or.inl c_2 | exact Or.inr c_7)
      rw [if_pos hk.1] at hQ
      generalize hkn : k.toNatClampNeg = kn at hQ hk
      obtain ⟨-, hk2, rfl⟩ := hk
      refine tt_al0 (q := 14) hc dX8_bodies_13 rfl ?_
      refine tt_getR (q := 17) hc fl_X8_12 (by first | assumption | exact ⟨by decide, _, rfl, rfl⟩) dX8_bodies_14 rfl ?_
      refine tt_getI (q := 20) hc fl_X8_81 (by first | assumption | exact ⟨by decide, _, rfl, _, rfl⟩) dX8_bodies_17 rfl ?_
      rw [a1.2.1]
      refine tt_is2 (q := 21) hc dX8_bodies_20 rfl (by decide) ?_
      refine tt_al0 (q := 22) hc dX8_bodies_21 rfl ?_
      refine tt_getR (q := 25) hc fl_X8_12 (by first | assumption | exact ⟨by decide, _, rfl, rfl⟩) dX8_bodies_22 rfl ?_
      refine tt_il1 (q := 26) hc dX8_bodies_25 rfl ?_
      refine tt_cV1 (q := 29) (d' := 0) (ci := 0) hc (by first | decide | omega) kmX0_empty ml_X8_85 (by first | assumption | exact ⟨by decide, _, rfl⟩) rfl (Nat.le_of_ble_eq_true rfl) dX8_bodies_26 rfl ?_
      refine c_X0_empty (j := 0) (by decide) hk2 (fun ν hf hR => ?_)
      dsimp only [Option.toList, List.nil_append, List.cons_append]
      refine tt_al0 (q := 30) hc dX8_bodies_29 rfl ?_
      refine tt_getR (q := 33) hc fl_X8_28 (by first | assumption | exact ⟨by decide, _, rfl, rfl⟩) dX8_bodies_30 rfl ?_
      refine tt_cV0 (q := 36) (d' := 0) (ci := 2) hc (by first | decide | omega) kmX2_forget ml_X8_89 (by first | assumption | exact ⟨by decide, _, rfl⟩) rfl (Nat.le_of_ble_eq_true rfl) dX8_bodies_33 rfl ?_
      refine c_X2_forget (a2.frm hf (by decide)) (fun ν' hf' hP => ?_)
      dsimp only [Option.toList, List.nil_append, List.cons_append]
      refine tt_il2 (q := 37) hc dX8_bodies_36 rfl ?_
      refine tt_reti hX rfl dX8_bodies_37 ?_
      refine hQ ν' ((hf.co (by decide)).tr (hf'.co (by decide))) ⟨hR.frm hf' (by decide) (by decide), hP _, (a3.frm hf (by decide)).frm hf' (by decide), (a4.frm hf (by decide) (by decide) (by decide)).frm hf' (by decide) (by decide) (by decide), (a5.frm hf (by decide) (by decide)).frm hf' (by decide) (by decide), (a6.frm hf (by decide) (by decide)).frm hf' (by decide) (by decide), (a7.frm hf (by decide) (by decide)).frm hf' (by decide) (by decide)⟩
    · refine tt_bipush (v := -2) (q := 12) hc (by decide) dX8_bodies_10 rfl ?_
      refine tt_reti hX rfl dX8_bodies_12 ?_
      rw [if_neg (inB_34f c_2 c_7)] at hQ
      exact hQ μ frm.rf hC'
/-- the past behind a step -/
def nt (B : HP) (hs : List HP) : List HP := (B :: hs).take 8
/-- what stays but the heap and the past, where the heap and the past are written -/
theorem CR.step {μ ν ν' : Mem} {K : Nat} {B B' : HP} {hs hs' : List HP} {ks : List (Nat × HP)} {im : Option (Nat × HP × List (Nat × HP))} {ls : Nat → Option (List Int32)} {tx pp : List Nat} (h : CR μ (K, B, hs, ks, im, ls, tx, pp)) (hf : frm pastL μ ν) (hP : PR ν K hs') (hf' : frm ([40, 41] ++ wkL) ν ν') (hR : RC ν' 0 K B') : CR ν' (K, B', hs', ks, im, ls, tx, pp) := by
  obtain ⟨a1, a2, a3, a4, a5, a6, a7⟩ := h
  exact ⟨hR, hP.frm hf' (by decide), (a3.frm hf (by decide)).frm hf' (by decide), (a4.frm hf (by decide) (by decide) (by decide)).frm hf' (by decide) (by decide) (by decide), (a5.frm hf (by decide) (by decide)).frm hf' (by decide) (by decide), (a6.frm hf (by decide) (by decide)).frm hf' (by decide) (by decide), (a7.frm hf (by decide) (by decide)).frm hf' (by decide) (by decide)⟩
def sp_make (k : Int32) (S : ST) : Int32 × ST := match S with
  | (K, B, hs, ks, im, ls, tx, pp) => if inB k (nI 0) (nI 5) = true then (nI (tot (made K k.toNatClampNeg)), (K, made K k.toNatClampNeg, nt B hs, ks, im, ls, tx, pp)) else (-1, S)
set_option maxHeartbeats 4000000 in
theorem c_X8_make {l : Launch} {k : Int32} {S : ST} {μ : Mem} {Q : Option Value → Mem → Prop} (hC : CR μ S) (hQ : ∀ μ', frm cO μ μ' → CR μ' (sp_make k S).2 → Q (some (.int (sp_make k S).1)) μ') : CC l 3 mX8_make [.ref 0, .int k] μ Q := by
  refine CC.of (M := mX8_make) (by decide +kernel) rfl (fun v h => by simp at h; rcases h with rfl | rfl <;> rfl) (Nat.le_of_ble_eq_true rfl) (fun X hX => ?_)
  have hc := hX.cx
  obtain ⟨K, B, hs, ks, im, ls, tx, pp⟩ := S
  have a1 := hC.1
  have a2 := hC.2.1
  rw [sp_make] at hQ
  refine tt_il1 (q := 1) hc dX8_make_0 rfl ?_
  refine tt_iflt (t := 9) (q := 4) hc dX8_make_1 rfl rfl (fun c_1 => ?_) (fun c_1 => ?_)
  · refine tt_iconst (v := -1) (q := 10) hc rfl dX8_make_9 rfl ?_
    refine tt_reti hX rfl dX8_make_10 ?_
    first
    | (rw [if_neg (by rw [inB_lo (a := nI 0) c_1]; exact Bool.false_ne_true)] at hQ; exact hQ μ frm.rf hC)
    | (rw [if_neg (by rw [inB_hi (b := nI 5) (Int32.not_le.mp c_6)]; exact Bool.false_ne_true)] at hQ; exact hQ μ frm.rf hC)
  · refine tt_il1 (q := 5) hc dX8_make_4 rfl ?_
    refine tt_iconst (v := nI 5) (q := 6) hc rfl dX8_make_5 rfl ?_
    first | (with_reducible refine chk2 ?_; refine tt_icleN (t := 11) (q := 9) hc (by omega) (by omega) dX8_make_6 rfl rfl (fun c_6 => ?_) (fun c_6 => ?_)) | refine tt_icle (t := 11) (q := 9) hc dX8_make_6 rfl rfl (fun c_6 => ?_) (fun c_6 => ?_)
    · have hin : inB k (nI 0) (nI 5) = true := inB_in c_1 (Int32.not_lt.mpr c_6)
      obtain ⟨n, -, hn5, rfl⟩ := inB_t (by decide) (by decide) hin
      rw [if_pos hin, nI_clamp (by omega)] at hQ
      refine tt_al0 (q := 12) hc dX8_make_11 rfl ?_
      refine tt_getR (q := 15) hc fl_X8_28 (by first | assumption | exact ⟨by decide, _, rfl, rfl⟩) dX8_make_12 rfl ?_
      refine tt_al0 (q := 16) hc dX8_make_15 rfl ?_
      refine tt_getR (q := 19) hc fl_X8_12 (by first | assumption | exact ⟨by decide, _, rfl, rfl⟩) dX8_make_16 rfl ?_
      refine tt_cV1 (q := 22) (d' := 2) (ci := 2) hc (by first | decide | omega) kmX2_note ml_X8_92 (by first | assumption | exact ⟨by decide, _, rfl⟩) rfl (Nat.le_of_ble_eq_true rfl) dX8_make_19 rfl ?_
      refine c_X2_note a1 a2 (fun ν hf hP => ?_)
      dsimp only [Option.toList, List.nil_append, List.cons_append]
      refine tt_al0 (q := 23) hc dX8_make_22 rfl ?_
      refine tt_getR (q := 26) hc fl_X8_12 (by first | assumption | exact ⟨by decide, _, rfl, rfl⟩) dX8_make_23 rfl ?_
      refine tt_il1 (q := 27) hc dX8_make_26 rfl ?_
      refine tt_cV1 (q := 30) (d' := 2) (ci := 0) hc (by first | decide | omega) kmX0_become ml_X8_96 (by first | assumption | exact ⟨by decide, _, rfl⟩) rfl (Nat.le_of_ble_eq_true rfl) dX8_make_27 rfl ?_
      refine c_X0_become (j := 0) (by decide) (a1.frm hf (by decide) (by decide)) (by omega) (fun ν' hf' hR => ?_)
      dsimp only [Option.toList, List.nil_append, List.cons_append]
      refine tt_al0 (q := 31) hc dX8_make_30 rfl ?_
      refine tt_getR (q := 34) hc fl_X8_12 (by first | assumption | exact ⟨by decide, _, rfl, rfl⟩) dX8_make_31 rfl ?_
      refine tt_cV0 (q := 37) (d' := 0) (ci := 0) hc (by first | decide | omega) kmX0_total ml_X8_99 (by first | assumption | exact ⟨by decide, _, rfl⟩) rfl (Nat.le_of_ble_eq_true rfl) dX8_make_34 rfl ?_
      refine c_X0_total (j := 0) (by decide) hR ?_
      dsimp only [Option.toList, List.nil_append, List.cons_append]
      refine tt_reti hX rfl dX8_make_37 ?_
      exact hQ ν' ((hf.co (by decide)).tr (hf'.co (by decide))) (hC.step hf hP (hf'.mono (by decide)) hR)
    · refine tt_iconst (v := -1) (q := 10) hc rfl dX8_make_9 rfl ?_
      refine tt_reti hX rfl dX8_make_10 ?_
      first
      | (rw [if_neg (by rw [inB_lo (a := nI 0) c_1]; exact Bool.false_ne_true)] at hQ; exact hQ μ frm.rf hC)
      | (rw [if_neg (by rw [inB_hi (b := nI 5) (Int32.not_le.mp c_6)]; exact Bool.false_ne_true)] at hQ; exact hQ μ frm.rf hC)
def sp_body (s : Int32) (S : ST) : Int32 × ST := match S with
  | (K, B, hs, ks, im, ls, tx, pp) => if inB s (nI 0) (nI 255) = true ∧ pop s.toNatClampNeg = K then (nI (tot (tog B s.toNatClampNeg)), (K, tog B s.toNatClampNeg, nt B hs, ks, im, ls, tx, pp)) else (-1, S)
set_option maxHeartbeats 4000000 in
theorem c_X8_body {l : Launch} {s : Int32} {S : ST} {μ : Mem} {Q : Option Value → Mem → Prop} (hC : CR μ S) (hQ : ∀ μ', frm cO μ μ' → CR μ' (sp_body s S).2 → Q (some (.int (sp_body s S).1)) μ') : CC l 3 mX8_body [.ref 0, .int s] μ Q := by
  refine CC.of (M := mX8_body) (by decide +kernel) rfl (fun v h => by simp at h; rcases h with rfl | rfl <;> rfl) (Nat.le_of_ble_eq_true rfl) (fun X hX => ?_)
  have hc := hX.cx
  obtain ⟨K, B, hs, ks, im, ls, tx, pp⟩ := S
  have a1 := hC.1
  have a2 := hC.2.1
  have hK := a1.1.1
  rw [sp_body] at hQ
  refine tt_il1 (q := 1) hc dX8_body_0 rfl ?_
  refine tt_iflt (t := 25) (q := 4) hc dX8_body_1 rfl rfl (fun c_1 => ?_) (fun c_1 => ?_)
  · refine tt_iconst (v := -1) (q := 26) hc rfl dX8_body_25 rfl ?_
    refine tt_reti hX rfl dX8_body_26 ?_
    first
    | (rw [if_neg (fun z => by rw [inB_lo (a := nI 0) c_1] at z; cases z.1)] at hQ; exact hQ μ frm.rf hC)
    | (rw [if_neg (fun z => by rw [inB_bf (b := 255) (by decide) c_8] at z; cases z.1)] at hQ; exact hQ μ frm.rf hC)
    | (rw [if_neg (fun z => c_22 z.2)] at hQ; exact hQ μ frm.rf hC)
  · refine tt_il1 (q := 5) hc dX8_body_4 rfl ?_
    refine tt_sipush (v := nI 256) (q := 8) hc (by decide) dX8_body_5 rfl ?_
    first | (with_reducible refine chk2 ?_; refine tt_icgeN (t := 25) (q := 11) hc (by omega) (by omega) dX8_body_8 rfl rfl (fun c_8 => ?_) (fun c_8 => ?_)) | refine tt_icge (t := 25) (q := 11) hc dX8_body_8 rfl rfl (fun c_8 => ?_) (fun c_8 => ?_)
    · refine tt_iconst (v := -1) (q := 26) hc rfl dX8_body_25 rfl ?_
      refine tt_reti hX rfl dX8_body_26 ?_
      first
      | (rw [if_neg (fun z => by rw [inB_lo (a := nI 0) c_1] at z; cases z.1)] at hQ; exact hQ μ frm.rf hC)
      | (rw [if_neg (fun z => by rw [inB_bf (b := 255) (by decide) c_8] at z; cases z.1)] at hQ; exact hQ μ frm.rf hC)
      | (rw [if_neg (fun z => c_22 z.2)] at hQ; exact hQ μ frm.rf hC)
    · have hin : inB s (nI 0) (nI 255) = true := inB_bt (by decide) c_1 c_8
      obtain ⟨n, -, hn5, rfl⟩ := inB_t (by decide) (by decide) hin
      rw [nI_clamp (by omega)] at hQ
      have hpl := pop_le n (by omega)
      refine tt_il1 (q := 12) hc dX8_body_11 rfl ?_
      refine tt_cS1 (q := 15) (d' := 0) hc (by first | decide | omega) kmJ6_bitCount_0f7a4 ml_X8_103 (Nat.le_of_ble_eq_true rfl) dX8_body_12 rfl ?_
      refine c_J6_bitCount_0f7a4 ?_
      dsimp only [Option.toList, List.nil_append, List.cons_append]
      refine tt_al0 (q := 16) hc dX8_body_15 rfl ?_
      refine tt_getR (q := 19) hc fl_X8_12 (by first | assumption | exact ⟨by decide, _, rfl, rfl⟩) dX8_body_16 rfl ?_
      refine tt_getI (q := 22) hc fl_X8_81 (by first | assumption | exact ⟨by decide, _, rfl, _, rfl⟩) dX8_body_19 rfl ?_
      rw [a1.2.1]
      first | (with_reducible refine chk2 ?_; refine tt_iceqN (t := 27) (q := 25) hc (by omega) (by omega) dX8_body_22 rfl rfl (fun c_22 => ?_) (fun c_22 => ?_)) | refine tt_iceq (t := 27) (q := 25) hc dX8_body_22 rfl rfl (fun c_22 => ?_) (fun c_22 => ?_)
      · rw [if_pos ⟨hin, c_22⟩] at hQ
        refine tt_al0 (q := 28) hc dX8_body_27 rfl ?_
        refine tt_getR (q := 31) hc fl_X8_28 (by first | assumption | exact ⟨by decide, _, rfl, rfl⟩) dX8_body_28 rfl ?_
        refine tt_al0 (q := 32) hc dX8_body_31 rfl ?_
        refine tt_getR (q := 35) hc fl_X8_12 (by first | assumption | exact ⟨by decide, _, rfl, rfl⟩) dX8_body_32 rfl ?_
        refine tt_cV1 (q := 38) (d' := 2) (ci := 2) hc (by first | decide | omega) kmX2_note ml_X8_92 (by first | assumption | exact ⟨by decide, _, rfl⟩) rfl (Nat.le_of_ble_eq_true rfl) dX8_body_35 rfl ?_
        refine c_X2_note a1 a2 (fun ν hf hP => ?_)
        dsimp only [Option.toList, List.nil_append, List.cons_append]
        refine tt_al0 (q := 39) hc dX8_body_38 rfl ?_
        refine tt_getR (q := 42) hc fl_X8_12 (by first | assumption | exact ⟨by decide, _, rfl, rfl⟩) dX8_body_39 rfl ?_
        refine tt_il1 (q := 43) hc dX8_body_42 rfl ?_
        refine tt_cV1 (q := 46) (d' := 0) (ci := 0) hc (by first | decide | omega) kmX0_toggle ml_X8_109 (by first | assumption | exact ⟨by decide, _, rfl⟩) rfl (Nat.le_of_ble_eq_true rfl) dX8_body_43 rfl ?_
        refine c_X0_toggle (j := 0) (by decide) (a1.frm hf (by decide) (by decide)) (by omega) c_22 (fun ν' hf' hR => ?_)
        dsimp only [Option.toList, List.nil_append, List.cons_append]
        refine tt_al0 (q := 47) hc dX8_body_46 rfl ?_
        refine tt_getR (q := 50) hc fl_X8_12 (by first | assumption | exact ⟨by decide, _, rfl, rfl⟩) dX8_body_47 rfl ?_
        refine tt_cV0 (q := 53) (d' := 0) (ci := 0) hc (by first | decide | omega) kmX0_total ml_X8_99 (by first | assumption | exact ⟨by decide, _, rfl⟩) rfl (Nat.le_of_ble_eq_true rfl) dX8_body_50 rfl ?_
        refine c_X0_total (j := 0) (by decide) hR ?_
        dsimp only [Option.toList, List.nil_append, List.cons_append]
        refine tt_reti hX rfl dX8_body_53 ?_
        exact hQ ν' ((hf.co (by decide)).tr (hf'.co (by decide))) (hC.step hf hP (hf'.mono (by decide)) hR)
      · refine tt_iconst (v := -1) (q := 26) hc rfl dX8_body_25 rfl ?_
        refine tt_reti hX rfl dX8_body_26 ?_
        first
        | (rw [if_neg (fun z => by rw [inB_lo (a := nI 0) c_1] at z; cases z.1)] at hQ; exact hQ μ frm.rf hC)
        | (rw [if_neg (fun z => by rw [inB_bf (b := 255) (by decide) c_8] at z; cases z.1)] at hQ; exact hQ μ frm.rf hC)
        | (rw [if_neg (fun z => c_22 z.2)] at hQ; exact hQ μ frm.rf hC)
