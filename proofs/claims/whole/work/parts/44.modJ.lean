/-! THE MODEL: image -/
theorem HQ75 : HQ 75 4 4 (fun i => 96 + i) := ⟨by decide, rfl, by decide⟩
theorem HA95 : HA 95 1 256 := ⟨by decide, rfl, by decide⟩
def imL : List Nat := [76, 95, 96, 97, 98, 99]
set_option maxHeartbeats 8000000 in
theorem c_X9_image {l : Launch} {S : ST} {μ : Mem} {Q : Option Value → Mem → Prop} (hM : MR μ S) (hQ : ∀ μ', frm mL μ μ' → MR μ' (sp_image S).2 → Q (some (.int (sp_image S).1)) μ') : CC l 2 mX9_image [.ref 24] μ Q := by
  refine CC.of (M := mX9_image) (by decide +kernel) rfl (fun v h => by simp at h; subst h; rfl) (Nat.le_of_ble_eq_true rfl) (fun X hX => ?_)
  have hc := hX.cx
  obtain ⟨K, B, hs, ks, im, ls, tx, pp⟩ := S
  obtain ⟨⟨a0, a1, a2⟩, a3, a4, a5, a6, a7, a8⟩ := id hM
  have q34 := HQ34
  have q75 := HQ75
  have a77 := HA77
  have a95 := HA95
  have a35 := HA35
  have a76 := HA76
  dsimp only [sp_image] at hQ
  have E : ∀ (ν : Mem) (w : Value), mg imL [28, 29, 30] μ ν → BA ν 95 B → ν 24 28 = 1 → ν 24 29 = nI K → ν 24 30 = nI ks.length → (∀ j C, j < 4 → BA μ (91 + j) C → BA ν (96 + j) C) → (∀ i, i < 4 → ν 76 i = μ 35 i) → TT X 74 [.ref 24, w] [] ν := by
    intro ν w hf hB e28 e29 e30 hv h76
    refine tt_al0 (q := 75) hc dX9_image_74 rfl ?_
    refine tt_getR (q := 78) hc fl_X9_15 (by first | assumption | exact ⟨by decide, _, rfl, rfl⟩) dX9_image_75 rfl ?_
    refine tt_cS1 (q := 81) (d' := 0) hc (by first | decide | omega) kmX9_bodiesOf ml_X9_140 (Nat.le_of_ble_eq_true rfl) dX9_image_78 rfl ?_
    refine c_X9_bodiesOf a77 a0 (a2.mg hf (by decide) (by decide)) ?_
    dsimp only [Option.toList, List.nil_append, List.cons_append]
    refine tt_reti hX rfl dX9_image_81 ?_
    refine hQ ν (hf.ml (by decide)) ⟨⟨a0, (hf.2 0 (by decide)).trans a1, a2.mg hf (by decide) (by decide)⟩, a3.mg hf (by decide) (by decide), a4.mg hf (by decide) (by decide), ⟨e28, e29, a0, hB, a4.1, e30, fun i q hq => ?_, fun j hj => (a4.2.2.2 j hj).imp (fun C hC => hv j C hj hC)⟩, a6.mg hf (by decide), a7.mg hf (by decide) (by decide), a8.mg hf (by decide) (by decide)⟩
    have h1 := a4.1
    have h2 := (List.getElem?_eq_some_iff.mp hq).1
    obtain ⟨g1, g2, g3⟩ := a4.2.2.1 i q hq
    exact ⟨hv i _ (by omega) g1, by rw [h76 i (by omega)]; exact g2, g3⟩
  have L : ∀ (n k : Nat) (ν : Mem), k + n = 4 → mg imL [28, 29, 30] μ ν → BA ν 95 B → ν 24 28 = 1 → ν 24 29 = nI K → ν 24 30 = nI ks.length → (∀ j C, j < k → BA μ (91 + j) C → BA ν (96 + j) C) → TT X 34 [.ref 24, .int (nI k)] [] ν := by
    intro n
    induction n with
    | zero =>
      intro k ν hk hf hB e28 e29 e30 hv
      have hk : k = 4 := by omega
      subst hk
      refine tt_il1 (q := 35) hc dX9_image_34 rfl ?_
      refine tt_iconst (v := nI 4) (q := 36) hc rfl dX9_image_35 rfl ?_
      first | (with_reducible refine chk2 ?_; refine tt_icgeN (t := 60) (q := 39) hc (by omega) (by omega) dX9_image_36 rfl rfl (fun c_36 => ?_) (fun c_36 => ?_)) | refine tt_icge (t := 60) (q := 39) hc dX9_image_36 rfl rfl (fun c_36 => ?_) (fun c_36 => ?_)
      · refine tt_al0 (q := 61) hc dX9_image_60 rfl ?_
        refine tt_getR (q := 64) hc fl_X9_54 (by first | assumption | exact ⟨by decide, _, rfl, rfl⟩) dX9_image_61 rfl ?_
        refine tt_iconst (v := nI 0) (q := 65) hc rfl dX9_image_64 rfl ?_
        refine tt_al0 (q := 66) hc dX9_image_65 rfl ?_
        refine tt_getR (q := 69) hc fl_X9_88 (by first | assumption | exact ⟨by decide, _, rfl, rfl⟩) dX9_image_66 rfl ?_
        refine tt_iconst (v := nI 0) (q := 70) hc rfl dX9_image_69 rfl ?_
        refine tt_iconst (v := nI 4) (q := 71) hc rfl dX9_image_70 rfl ?_
        refine tt_acopy (q := 74) hc (by decide) ac_X9_101 a35 a76 rfl rfl (by omega) (by omega) (fun _ _ => rfl) rfl dX9_image_71 rfl ?_
        refine E _ _ (hf.tr (mg.fr (frm.set.mono (by decide)) (by decide))) (hB.mg (mg.fr (l := [76]) (p := []) frm.set (by decide)) (by decide) (by decide)) e28 e29 e30 (fun j C hj hC => (hv j C hj hC).mg (mg.fr (l := [76]) (p := []) frm.set (by decide)) (by simp; omega) (by omega)) (fun i hi => ?_)
        rw [mset_eq, pk_cpy_in (Nat.zero_le i) (by omega), Nat.zero_add, Nat.sub_zero, hf.1 35 (by decide) (by decide)]
      · omega
    | succ n ih =>
      intro k ν hk hf hB e28 e29 e30 hv
      obtain ⟨C, hC⟩ := a4.2.2.2 k (by omega)
      have hCν := hC.mg hf (by simp [imL]; omega) (by omega)
      have ak := HAk (show k < 4 by omega)
      have ai := HAi (show k < 4 by omega)
      refine tt_il1 (q := 35) hc dX9_image_34 rfl ?_
      refine tt_iconst (v := nI 4) (q := 36) hc rfl dX9_image_35 rfl ?_
      first | (with_reducible refine chk2 ?_; refine tt_icgeN (t := 60) (q := 39) hc (by omega) (by omega) dX9_image_36 rfl rfl (fun c_36 => ?_) (fun c_36 => ?_)) | refine tt_icge (t := 60) (q := 39) hc dX9_image_36 rfl rfl (fun c_36 => ?_) (fun c_36 => ?_)
      · omega
      · refine tt_al0 (q := 40) hc dX9_image_39 rfl ?_
        refine tt_getR (q := 43) hc fl_X9_51 (by first | assumption | exact ⟨by decide, _, rfl, rfl⟩) dX9_image_40 rfl ?_
        refine tt_il1 (q := 44) hc dX9_image_43 rfl ?_
        refine tt_aald (q := 45) hc (r := _) (by first | assumption | exact ⟨by decide, rfl, by decide⟩) (by decide) (by omega) dX9_image_44 rfl ?_
        refine tt_al0 (q := 46) hc dX9_image_45 rfl ?_
        refine tt_getR (q := 49) hc fl_X9_85 (by first | assumption | exact ⟨by decide, _, rfl, rfl⟩) dX9_image_46 rfl ?_
        refine tt_il1 (q := 50) hc dX9_image_49 rfl ?_
        refine tt_aald (q := 51) hc (r := _) (by first | assumption | exact ⟨by decide, rfl, by decide⟩) (by decide) (by omega) dX9_image_50 rfl ?_
        refine tt_cS2 (q := 54) (d' := 1) hc (by first | decide | omega) kmX9_lays ml_X9_123 (Nat.le_of_ble_eq_true rfl) dX9_image_51 rfl ?_
        refine c_X9_lays ak ai hCν (fun ν' hf' hB' => ?_)
        have hin : 96 + k ∈ imL := by rcases (show k = 0 ∨ k = 1 ∨ k = 2 ∨ k = 3 by omega) with rfl | rfl | rfl | rfl <;> decide
        have hm : mg imL [28, 29, 30] ν ν' := mg.fr (hf'.mono (fun i hi => by rw [List.mem_singleton.mp hi]; exact hin)) (by decide)
        have h24 : ν' 24 = ν 24 := hf' 24 (by simp; omega)
        dsimp only [Option.toList, List.nil_append, List.cons_append]
        first | refine tt_inc1 (q := 57) hc dX9_image_54 rfl (by decide) (incN _) ?_ | refine tt_inc1 (q := 57) hc dX9_image_54 rfl (by decide) rfl ?_
        refine tt_goto (t := 34) hc dX9_image_57 rfl ?_
        refine ih (k + 1) ν' (by omega) (hf.tr hm) (fun s hs => by rw [hf' 95 (by simp; omega)]; exact hB s hs) (by rw [h24]; exact e28) (by rw [h24]; exact e29) (by rw [h24]; exact e30) (fun j D hj hD => ?_)
        by_cases e : j = k
        · subst e
          intro s hs
          rw [hB' s hs, ← hC s hs]
          exact hD s hs
        · intro s hs
          rw [hf' _ (by simp; omega)]
          exact hv j D (by omega) hD s hs
  have F : ∀ (ν : Mem), mg imL [28, 29, 30] μ ν → ν 24 28 = 1 → ν 24 29 = nI K → ν 24 30 = nI ks.length → TT X 21 [.ref 24, .long 0] [] ν := by
    intro ν hf e28 e29 e30
    have hB := a2.mg hf (by decide) (by decide)
    refine tt_al0 (q := 22) hc dX9_image_21 rfl ?_
    refine tt_getR (q := 25) hc fl_X9_15 (by first | assumption | exact ⟨by decide, _, rfl, rfl⟩) dX9_image_22 rfl ?_
    refine tt_al0 (q := 26) hc dX9_image_25 rfl ?_
    refine tt_getR (q := 29) hc fl_X9_82 (by first | assumption | exact ⟨by decide, _, rfl, rfl⟩) dX9_image_26 rfl ?_
    refine tt_cS2 (q := 32) (d' := 1) hc (by first | decide | omega) kmX9_lays ml_X9_123 (Nat.le_of_ble_eq_true rfl) dX9_image_29 rfl ?_
    refine c_X9_lays a77 a95 hB (fun ν' hf' hB' => ?_)
    have hm : mg imL [28, 29, 30] ν ν' := mg.fr (hf'.mono (fun i hi => by rw [List.mem_singleton.mp hi]; decide)) (by decide)
    have h24 : ν' 24 = ν 24 := hf' 24 (by decide)
    dsimp only [Option.toList, List.nil_append, List.cons_append]
    refine tt_iconst (v := nI 0) (q := 33) hc rfl dX9_image_32 rfl ?_
    refine tt_is1 (q := 34) hc dX9_image_33 rfl (by decide) ?_
    exact L 4 0 ν' rfl (hf.tr hm) hB' (by rw [h24]; exact e28) (by rw [h24]; exact e29) (by rw [h24]; exact e30) (fun j C h => absurd h (Nat.not_lt_zero _))
  refine tt_al0 (q := 1) hc dX9_image_0 rfl ?_
  refine tt_iconst (v := nI 1) (q := 2) hc rfl dX9_image_1 rfl ?_
  refine tt_putZ (q := 5) hc fp_X9_353 (by first | assumption | exact ⟨by decide, _, rfl, _, rfl⟩) (by decide) dX9_image_2 rfl ?_
  refine tt_al0 (q := 6) hc dX9_image_5 rfl ?_
  refine tt_al0 (q := 7) hc dX9_image_6 rfl ?_
  refine tt_getI (q := 10) hc fl_X9_9 (by first | assumption | exact ⟨by decide, _, rfl, _, rfl⟩) dX9_image_7 rfl ?_
  rw [mset_eq, pk_un (by decide), a1]
  refine tt_putI (q := 13) hc fp_X9_357 (by first | assumption | exact ⟨by decide, _, rfl, _, rfl⟩) dX9_image_10 rfl ?_
  refine tt_al0 (q := 14) hc dX9_image_13 rfl ?_
  refine tt_al0 (q := 15) hc dX9_image_14 rfl ?_
  refine tt_getI (q := 18) hc fl_X9_214 (by first | assumption | exact ⟨by decide, _, rfl, _, rfl⟩) dX9_image_15 rfl ?_
  rw [mset_eq, pk_un (by decide), mset_eq, pk_un (by decide), a4.2.1]
  refine tt_putI (q := 21) hc fp_X9_360 (by first | assumption | exact ⟨by decide, _, rfl, _, rfl⟩) dX9_image_18 rfl ?_
  exact F _ ((mg.own (by decide)).tr ((mg.own (by decide)).tr (mg.own (by decide)))) rfl rfl rfl
