/-! THE MODEL: undo -/
def unL : List Nat := [35, 77, 91, 92, 93, 94]
set_option maxHeartbeats 8000000 in
theorem c_X9_undo {l : Launch} {S : ST} {μ : Mem} {Q : Option Value → Mem → Prop} (hM : MR μ S) (hQ : ∀ μ', frm mL μ μ' → MR μ' (sp_undo S).2 → Q (some (.int (sp_undo S).1)) μ') : CC l 2 mX9_undo [.ref 24] μ Q := by
  refine CC.of (M := mX9_undo) (by decide +kernel) rfl (fun v h => by simp at h; subst h; rfl) (Nat.le_of_ble_eq_true rfl) (fun X hX => ?_)
  have hc := hX.cx
  obtain ⟨K0, B0, hs, ks, im, ls, tx, pp⟩ := S
  obtain ⟨⟨a0, a1, a2⟩, a3, a4, a5, a6, a7, a8⟩ := id hM
  have q34 := HQ34
  have q75 := HQ75
  have a77 := HA77
  have a95 := HA95
  have a35 := HA35
  have a76 := HA76
  dsimp only [sp_undo] at hQ
  match im, hM, hQ, a5 with
  | none, hM, hQ, a5 =>
    have a5 : μ 24 28 = 0 := a5
    refine tt_al0 (q := 1) hc dX9_undo_0 rfl ?_
    refine tt_getI (q := 4) hc fl_X9_353 (by first | assumption | exact ⟨by decide, _, rfl, _, rfl⟩) dX9_undo_1 rfl ?_
    rw [a5]
    first | (with_reducible refine chkb ?_; refine tt_ifneB (t := 10) (q := 7) hc dX9_undo_4 rfl rfl (fun c_4 => ?_) (fun c_4 => ?_)) | (with_reducible refine chk1 ?_; refine tt_ifneN (t := 10) (q := 7) hc (by omega) dX9_undo_4 rfl rfl (fun c_4 => ?_) (fun c_4 => ?_)) | refine tt_ifne (t := 10) (q := 7) hc dX9_undo_4 rfl rfl (fun c_4 => ?_) (fun c_4 => ?_)
    · exact absurd rfl c_4
    · refine tt_bipush (v := -3) (q := 9) hc (by decide) dX9_undo_7 rfl ?_
      refine tt_reti hX rfl dX9_undo_9 ?_
      exact hQ μ frm.rf hM
  | some (K, B, k'), hM, hQ, a5 =>
    obtain ⟨d1, d2, d3, d4, d5, d6, d7, d8⟩ := id a5
    have E : ∀ (ν : Mem) (w : Value), mg unL [0, 6, 15] μ ν → BA ν 77 B → ν 24 0 = nI K → ν 24 15 = nI k'.length → ν 24 6 = 0 → (∀ j C, j < 4 → BA μ (96 + j) C → BA ν (91 + j) C) → (∀ i, i < 4 → ν 35 i = μ 76 i) → TT X 84 [.ref 24, w] [] ν := by
      intro ν w hf hB e0 e15 e6 hv h35
      refine tt_al0 (q := 85) hc dX9_undo_84 rfl ?_
      refine tt_getR (q := 88) hc fl_X9_15 (by first | assumption | exact ⟨by decide, _, rfl, rfl⟩) dX9_undo_85 rfl ?_
      refine tt_cS1 (q := 91) (d' := 0) hc (by first | decide | omega) kmX9_bodiesOf ml_X9_140 (Nat.le_of_ble_eq_true rfl) dX9_undo_88 rfl ?_
      refine c_X9_bodiesOf a77 d3 hB ?_
      dsimp only [Option.toList, List.nil_append, List.cons_append]
      refine tt_reti hX rfl dX9_undo_91 ?_
      refine hQ ν (hf.ml (by decide)) ⟨⟨d3, e0, hB⟩, ⟨Nat.zero_le _, e6, fun i C h => (by cases h)⟩, ⟨d5, e15, fun i q hq => ?_, fun j hj => (d8 j hj).imp (fun C hC => hv j C hj hC)⟩, a5.mg hf (by decide) (by decide) (by decide) (by decide), a6.mg hf (by decide), a7.mg hf (by decide) (by decide), a8.mg hf (by decide) (by decide)⟩
      have h2 := (List.getElem?_eq_some_iff.mp hq).1
      obtain ⟨g1, g2, g3⟩ := d7 i q hq
      exact ⟨hv i _ (by omega) g1, by rw [h35 i (by omega)]; exact g2, g3⟩
    have L : ∀ (n k : Nat) (ν : Mem), k + n = 4 → mg unL [0, 6, 15] μ ν → BA ν 77 B → ν 24 0 = nI K → ν 24 15 = nI k'.length → (∀ j C, j < k → BA μ (96 + j) C → BA ν (91 + j) C) → TT X 39 [.ref 24, .int (nI k)] [] ν := by
      intro n
      induction n with
      | zero =>
        intro k ν hk hf hB e0 e15 hv
        have hk : k = 4 := by omega
        subst hk
        refine tt_il1 (q := 40) hc dX9_undo_39 rfl ?_
        refine tt_iconst (v := nI 4) (q := 41) hc rfl dX9_undo_40 rfl ?_
        first | (with_reducible refine chk2 ?_; refine tt_icgeN (t := 65) (q := 44) hc (by omega) (by omega) dX9_undo_41 rfl rfl (fun c_41 => ?_) (fun c_41 => ?_)) | refine tt_icge (t := 65) (q := 44) hc dX9_undo_41 rfl rfl (fun c_41 => ?_) (fun c_41 => ?_)
        · refine tt_al0 (q := 66) hc dX9_undo_65 rfl ?_
          refine tt_getR (q := 69) hc fl_X9_88 (by first | assumption | exact ⟨by decide, _, rfl, rfl⟩) dX9_undo_66 rfl ?_
          refine tt_iconst (v := nI 0) (q := 70) hc rfl dX9_undo_69 rfl ?_
          refine tt_al0 (q := 71) hc dX9_undo_70 rfl ?_
          refine tt_getR (q := 74) hc fl_X9_54 (by first | assumption | exact ⟨by decide, _, rfl, rfl⟩) dX9_undo_71 rfl ?_
          refine tt_iconst (v := nI 0) (q := 75) hc rfl dX9_undo_74 rfl ?_
          refine tt_iconst (v := nI 4) (q := 76) hc rfl dX9_undo_75 rfl ?_
          refine tt_acopy (q := 79) hc (by decide) ac_X9_101 a76 a35 rfl rfl (by omega) (by omega) (fun _ _ => rfl) rfl dX9_undo_76 rfl ?_
          refine tt_al0 (q := 80) hc dX9_undo_79 rfl ?_
          refine tt_iconst (v := nI 0) (q := 81) hc rfl dX9_undo_80 rfl ?_
          refine tt_putI (q := 84) hc fp_X9_120 (by first | assumption | exact ⟨by decide, _, rfl, _, rfl⟩) dX9_undo_81 rfl ?_
          have hm : mg [35] [6] ν (mset (mset ν 35 (va_cpy (ν 76) (ν 35) 0 0 4)) 24 (upd (mset ν 35 (va_cpy (ν 76) (ν 35) 0 0 4) 24) 6 (nI 0))) := (mg.fr frm.set (by decide)).tr (mg.own (by decide))
          refine E _ _ (hf.tr (hm.mono (by decide) (by decide))) (hB.mg hm (by decide) (by decide)) e0 e15 rfl (fun j C hj hC => (hv j C hj hC).mg hm (by simp; omega) (by omega)) (fun i hi => ?_)
          rw [mset_ne (by decide), mset_eq, pk_cpy_in (Nat.zero_le i) (by omega), Nat.zero_add, Nat.sub_zero, hf.1 76 (by decide) (by decide)]
        · omega
      | succ n ih =>
        intro k ν hk hf hB e0 e15 hv
        obtain ⟨C, hC⟩ := d8 k (by omega)
        have hCν := hC.mg hf (by simp [unL]; omega) (by omega)
        have ak := HAk (show k < 4 by omega)
        have ai := HAi (show k < 4 by omega)
        refine tt_il1 (q := 40) hc dX9_undo_39 rfl ?_
        refine tt_iconst (v := nI 4) (q := 41) hc rfl dX9_undo_40 rfl ?_
        first | (with_reducible refine chk2 ?_; refine tt_icgeN (t := 65) (q := 44) hc (by omega) (by omega) dX9_undo_41 rfl rfl (fun c_41 => ?_) (fun c_41 => ?_)) | refine tt_icge (t := 65) (q := 44) hc dX9_undo_41 rfl rfl (fun c_41 => ?_) (fun c_41 => ?_)
        · omega
        · refine tt_al0 (q := 45) hc dX9_undo_44 rfl ?_
          refine tt_getR (q := 48) hc fl_X9_85 (by first | assumption | exact ⟨by decide, _, rfl, rfl⟩) dX9_undo_45 rfl ?_
          refine tt_il1 (q := 49) hc dX9_undo_48 rfl ?_
          refine tt_aald (q := 50) hc (r := _) (by first | assumption | exact ⟨by decide, rfl, by decide⟩) (by decide) (by omega) dX9_undo_49 rfl ?_
          refine tt_al0 (q := 51) hc dX9_undo_50 rfl ?_
          refine tt_getR (q := 54) hc fl_X9_51 (by first | assumption | exact ⟨by decide, _, rfl, rfl⟩) dX9_undo_51 rfl ?_
          refine tt_il1 (q := 55) hc dX9_undo_54 rfl ?_
          refine tt_aald (q := 56) hc (r := _) (by first | assumption | exact ⟨by decide, rfl, by decide⟩) (by decide) (by omega) dX9_undo_55 rfl ?_
          refine tt_cS2 (q := 59) (d' := 1) hc (by first | decide | omega) kmX9_lays ml_X9_123 (Nat.le_of_ble_eq_true rfl) dX9_undo_56 rfl ?_
          refine c_X9_lays ai ak hCν (fun ν' hf' hB' => ?_)
          have hin : 91 + k ∈ unL := by rcases (show k = 0 ∨ k = 1 ∨ k = 2 ∨ k = 3 by omega) with rfl | rfl | rfl | rfl <;> decide
          have hm : mg unL [0, 6, 15] ν ν' := mg.fr (hf'.mono (fun i hi => by rw [List.mem_singleton.mp hi]; exact hin)) (by decide)
          have h24 : ν' 24 = ν 24 := hf' 24 (by simp; omega)
          dsimp only [Option.toList, List.nil_append, List.cons_append]
          first | refine tt_inc1 (q := 62) hc dX9_undo_59 rfl (by decide) (incN _) ?_ | refine tt_inc1 (q := 62) hc dX9_undo_59 rfl (by decide) rfl ?_
          refine tt_goto (t := 39) hc dX9_undo_62 rfl ?_
          refine ih (k + 1) ν' (by omega) (hf.tr hm) (fun s hs => by rw [hf' 77 (by simp; omega)]; exact hB s hs) (by rw [h24]; exact e0) (by rw [h24]; exact e15) (fun j D hj hD => ?_)
          by_cases e : j = k
          · subst e
            intro s hs
            rw [hB' s hs, ← hC s hs]
            exact hD s hs
          · intro s hs
            rw [hf' _ (by simp; omega)]
            exact hv j D (by omega) hD s hs
    have F : ∀ (ν : Mem), mg unL [0, 6, 15] μ ν → ν 24 0 = nI K → ν 24 15 = nI k'.length → TT X 26 [.ref 24, .long 0] [] ν := by
      intro ν hf e0 e15
      have hB := d4.mg hf (by decide) (by decide)
      refine tt_al0 (q := 27) hc dX9_undo_26 rfl ?_
      refine tt_getR (q := 30) hc fl_X9_82 (by first | assumption | exact ⟨by decide, _, rfl, rfl⟩) dX9_undo_27 rfl ?_
      refine tt_al0 (q := 31) hc dX9_undo_30 rfl ?_
      refine tt_getR (q := 34) hc fl_X9_15 (by first | assumption | exact ⟨by decide, _, rfl, rfl⟩) dX9_undo_31 rfl ?_
      refine tt_cS2 (q := 37) (d' := 1) hc (by first | decide | omega) kmX9_lays ml_X9_123 (Nat.le_of_ble_eq_true rfl) dX9_undo_34 rfl ?_
      refine c_X9_lays a95 a77 hB (fun ν' hf' hB' => ?_)
      have hm : mg unL [0, 6, 15] ν ν' := mg.fr (hf'.mono (fun i hi => by rw [List.mem_singleton.mp hi]; decide)) (by decide)
      have h24 : ν' 24 = ν 24 := hf' 24 (by decide)
      dsimp only [Option.toList, List.nil_append, List.cons_append]
      refine tt_iconst (v := nI 0) (q := 38) hc rfl dX9_undo_37 rfl ?_
      refine tt_is1 (q := 39) hc dX9_undo_38 rfl (by decide) ?_
      exact L 4 0 ν' rfl (hf.tr hm) hB' (by rw [h24]; exact e0) (by rw [h24]; exact e15) (fun j C h => absurd h (Nat.not_lt_zero _))
    refine tt_al0 (q := 1) hc dX9_undo_0 rfl ?_
    refine tt_getI (q := 4) hc fl_X9_353 (by first | assumption | exact ⟨by decide, _, rfl, _, rfl⟩) dX9_undo_1 rfl ?_
    rw [d1]
    first | (with_reducible refine chkb ?_; refine tt_ifneB (t := 10) (q := 7) hc dX9_undo_4 rfl rfl (fun c_4 => ?_) (fun c_4 => ?_)) | (with_reducible refine chk1 ?_; refine tt_ifneN (t := 10) (q := 7) hc (by omega) dX9_undo_4 rfl rfl (fun c_4 => ?_) (fun c_4 => ?_)) | refine tt_ifne (t := 10) (q := 7) hc dX9_undo_4 rfl rfl (fun c_4 => ?_) (fun c_4 => ?_)
    · refine tt_al0 (q := 11) hc dX9_undo_10 rfl ?_
      refine tt_al0 (q := 12) hc dX9_undo_11 rfl ?_
      refine tt_getI (q := 15) hc fl_X9_357 (by first | assumption | exact ⟨by decide, _, rfl, _, rfl⟩) dX9_undo_12 rfl ?_
      rw [d2]
      refine tt_putI (q := 18) hc fp_X9_9 (by first | assumption | exact ⟨by decide, _, rfl, _, rfl⟩) dX9_undo_15 rfl ?_
      refine tt_al0 (q := 19) hc dX9_undo_18 rfl ?_
      refine tt_al0 (q := 20) hc dX9_undo_19 rfl ?_
      refine tt_getI (q := 23) hc fl_X9_360 (by first | assumption | exact ⟨by decide, _, rfl, _, rfl⟩) dX9_undo_20 rfl ?_
      rw [mset_eq, pk_un (by decide), d6]
      refine tt_putI (q := 26) hc fp_X9_214 (by first | assumption | exact ⟨by decide, _, rfl, _, rfl⟩) dX9_undo_23 rfl ?_
      exact F _ ((mg.own (by decide)).tr (mg.own (by decide))) rfl rfl
    · exact absurd c_4 (by decide)
