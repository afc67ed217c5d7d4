/-! THE CLASS: the text is obeyed -/
theorem spl_ok {tx : List Nat} : ∀ (m p : Nat) (q : Nat × Nat × Nat), p ≤ tx.length → q ∈ (spl tx m p).2 → q.1 < 12 ∧ q.2.1 ≤ q.2.2 ∧ q.2.2 ≤ tx.length ∧ ∀ i, q.2.1 ≤ i → i < q.2.2 → 48 ≤ tx.getD i 0 ∧ tx.getD i 0 ≤ 57
  | 0, _, _, _, h => by cases h
  | m + 1, p, q, hp, h => by
    have b1 := bhN_le tx 97 122 (tx.length - p) p
    have b2 := bhN_le tx 48 57 (tx.length - bh tx 97 122 p) (bh tx 97 122 p)
    have b3 := fun i h1 h2 => bhN_in (tx := tx) (a := 48) (b := 57) (tx.length - bh tx 97 122 p) (bh tx 97 122 p) i h1 h2
    rw [← bh] at b1
    rw [← bh] at b2 b3
    rw [spl] at h
    generalize bh tx 97 122 p = e1 at *
    generalize bh tx 48 57 e1 = e2 at *
    cases hw : wo tx p e1 with
    | none =>
      rw [hw] at h
      cases h
    | some w =>
      have hwl := wo_lt hw
      rw [hw] at h
      dsimp only at h
      have hd : ∀ q : Nat × Nat × Nat, q = (w, e1, e2) → q.1 < 12 ∧ q.2.1 ≤ q.2.2 ∧ q.2.2 ≤ tx.length ∧ ∀ i, q.2.1 ≤ i → i < q.2.2 → 48 ≤ tx.getD i 0 ∧ tx.getD i 0 ≤ 57 := by
        intro q e
        subst e
        exact ⟨hwl, b2.1, (show e2 ≤ tx.length by omega), b3⟩
      split at h
      · cases h
      · split at h
        · exact hd q (List.mem_singleton.mp h)
        · split at h
          · rcases List.mem_cons.mp h with e | e
            · exact hd q e
            · exact spl_ok m (e2 + 1) q (by omega) e
          · exact hd q (List.mem_singleton.mp h)
theorem spl_len {tx : List Nat} : ∀ (m p : Nat), (spl tx m p).2.length ≤ m
  | 0, _ => Nat.le_refl _
  | m + 1, p => by
    rw [spl]
    cases wo tx p (bh tx 97 122 p) with
    | none => exact Nat.zero_le _
    | some w =>
      dsimp only
      split
      · exact Nat.zero_le _
      · split
        · exact Nat.succ_le_succ (Nat.zero_le _)
        · split
          · exact Nat.succ_le_succ (spl_len m _)
          · exact Nat.succ_le_succ (Nat.zero_le _)
theorem WD.frm {μ μ' : Mem} {l : List Nat} {ws : List (Nat × Nat × Nat)} (h : WD μ ws) (hf : frm l μ μ') (h1 : 18 ∉ l) (h2 : 20 ∉ l) (h3 : 21 ∉ l) (h4 : 22 ∉ l) : WD μ' ws := by
  refine ⟨by rw [hf 18 h1]; exact h.1, fun i q hq => ?_⟩
  rw [hf 20 h2, hf 21 h3, hf 22 h4]
  exact h.2 i q hq
def sp_obey (tx : List Nat) (q : Nat × Nat × Nat) (S : ST) : Int32 × ST :=
  if q.1 ≤ 5 then sp_make (nI q.1) S else if q.1 = 6 then sp_bodies (nI 3) S else if q.1 = 7 then sp_bodies (nI 4) S else if q.1 = 8 then sp_flip (nI (valN tx (q.2.2 - q.2.1) q.2.1 0)) S else if q.1 = 9 then sp_keep S else if q.1 = 10 then sp_take (nI (valN tx (q.2.2 - q.2.1) q.2.1 0)) S else sp_body (m1I (psN tx (q.2.2 - q.2.1) q.2.1 0)) S
set_option maxHeartbeats 8000000 in
theorem c_X8_obey {l : Launch} {tx : List Nat} {ws : List (Nat × Nat × Nat)} {k : Nat} {q : Nat × Nat × Nat} {S : ST} {μ : Mem} {Q : Option Value → Mem → Prop} (hC : CR μ S) (h19 : ∀ i b, tx[i]? = some b → μ 19 i = nI b) (hlen : tx.length ≤ 120) (hW : WD μ ws) (hk : k < 12) (hq : ws[k]? = some q) (hok : q.1 < 12 ∧ q.2.1 ≤ q.2.2 ∧ q.2.2 ≤ tx.length ∧ ∀ i, q.2.1 ≤ i → i < q.2.2 → 48 ≤ tx.getD i 0 ∧ tx.getD i 0 ≤ 57) (hQ : ∀ μ', frm cO μ μ' → CR μ' (sp_obey tx q S).2 → Q (some (.int (sp_obey tx q S).1)) μ') : CC l 5 mX8_obey [.ref 0, .int (nI k)] μ Q := by
  refine CC.of (M := mX8_obey) (by decide +kernel) rfl (fun v h => by simp at h; rcases h with rfl | rfl <;> rfl) (Nat.le_of_ble_eq_true rfl) (fun X hX => ?_)
  have hc := hX.cx
  obtain ⟨g1, g2, g3, g4⟩ := hok
  have hw := (hW.2 k q hq).1
  have a20 := HA20
  obtain ⟨w, e1, e2⟩ := q
  dsimp only at g1 g2 g3 g4 hw
  unfold sp_obey at hQ
  dsimp only at hQ
  have SM : w ≤ 5 → TT X 15 [.ref 0, .int (nI k), .int (nI w)] [] μ := by
    intro h5
    rw [if_pos h5] at hQ
    refine tt_al0 (q := 16) hc dX8_obey_15 rfl ?_
    refine tt_il2 (q := 17) hc dX8_obey_16 rfl ?_
    refine tt_cV1 (q := 20) (d' := 3) (ci := 8) hc (by first | decide | omega) kmX8_make ml_X8_278 (by first | assumption | exact ⟨by decide, _, rfl⟩) rfl (Nat.le_of_ble_eq_true rfl) dX8_obey_17 rfl ?_
    refine c_X8_make hC (fun ν hf hR => ?_)
    dsimp only [Option.toList, List.nil_append, List.cons_append]
    refine tt_reti hX rfl dX8_obey_20 ?_
    exact hQ ν hf hR
  have SW : ¬ w ≤ 5 → TT X 22 [.ref 0, .int (nI k), .int (nI w)] [.int (nI w)] μ := by
    intro h5
    rw [if_neg h5] at hQ
    rcases (show w = 6 ∨ w = 7 ∨ w = 8 ∨ w = 9 ∨ w = 10 ∨ w = 11 by omega) with rfl | rfl | rfl | rfl | rfl | rfl
    · refine tt_tswI (t := 60) hc dX8_obey_22 (by decide) (by decide) rfl rfl ?_
      refine tt_al0 (q := 61) hc dX8_obey_60 rfl ?_
      refine tt_iconst (v := nI 3) (q := 62) hc rfl dX8_obey_61 rfl ?_
      refine tt_cV1 (q := 65) (d' := 1) (ci := 8) hc (by first | decide | omega) kmX8_bodies ml_X8_281 (by first | assumption | exact ⟨by decide, _, rfl⟩) rfl (Nat.le_of_ble_eq_true rfl) dX8_obey_62 rfl ?_
      refine c_X8_bodies hC (fun ν hf hR => ?_)
      dsimp only [Option.toList, List.nil_append, List.cons_append]
      refine tt_reti hX rfl dX8_obey_65 ?_
      exact hQ ν hf hR
    · refine tt_tswI (t := 66) hc dX8_obey_22 (by decide) (by decide) rfl rfl ?_
      refine tt_al0 (q := 67) hc dX8_obey_66 rfl ?_
      refine tt_iconst (v := nI 4) (q := 68) hc rfl dX8_obey_67 rfl ?_
      refine tt_cV1 (q := 71) (d' := 1) (ci := 8) hc (by first | decide | omega) kmX8_bodies ml_X8_281 (by first | assumption | exact ⟨by decide, _, rfl⟩) rfl (Nat.le_of_ble_eq_true rfl) dX8_obey_68 rfl ?_
      refine c_X8_bodies hC (fun ν hf hR => ?_)
      dsimp only [Option.toList, List.nil_append, List.cons_append]
      refine tt_reti hX rfl dX8_obey_71 ?_
      exact hQ ν hf hR
    · refine tt_tswI (t := 72) hc dX8_obey_22 (by decide) (by decide) rfl rfl ?_
      refine tt_al0 (q := 73) hc dX8_obey_72 rfl ?_
      refine tt_al0 (q := 74) hc dX8_obey_73 rfl ?_
      refine tt_getR (q := 77) hc fl_X8_73 (by first | assumption | exact ⟨by decide, _, rfl, rfl⟩) dX8_obey_74 rfl ?_
      refine tt_il1 (q := 78) hc dX8_obey_77 rfl ?_
      refine tt_cV1 (q := 81) (d' := 0) (ci := 6) hc (by first | decide | omega) kmX6_value ml_X8_284 (by first | assumption | exact ⟨by decide, _, rfl⟩) rfl (Nat.le_of_ble_eq_true rfl) dX8_obey_78 rfl ?_
      refine c_X6_value h19 hlen hW hk hq g2 g3 g4 ?_
      dsimp only [Option.toList, List.nil_append, List.cons_append]
      refine tt_cV1 (q := 84) (d' := 4) (ci := 8) hc (by first | decide | omega) kmX8_flip ml_X8_287 (by first | assumption | exact ⟨by decide, _, rfl⟩) rfl (Nat.le_of_ble_eq_true rfl) dX8_obey_81 rfl ?_
      refine c_X8_flip hC (fun ν hf hR => ?_)
      dsimp only [Option.toList, List.nil_append, List.cons_append]
      refine tt_reti hX rfl dX8_obey_84 ?_
      exact hQ ν hf hR
    · refine tt_tswI (t := 85) hc dX8_obey_22 (by decide) (by decide) rfl rfl ?_
      refine tt_al0 (q := 86) hc dX8_obey_85 rfl ?_
      refine tt_cV0 (q := 89) (d' := 3) (ci := 8) hc (by first | decide | omega) kmX8_keep ml_X8_290 (by first | assumption | exact ⟨by decide, _, rfl⟩) rfl (Nat.le_of_ble_eq_true rfl) dX8_obey_86 rfl ?_
      refine c_X8_keep hC (fun ν hf hR => ?_)
      dsimp only [Option.toList, List.nil_append, List.cons_append]
      refine tt_reti hX rfl dX8_obey_89 ?_
      exact hQ ν hf hR
    · refine tt_tswI (t := 90) hc dX8_obey_22 (by decide) (by decide) rfl rfl ?_
      refine tt_al0 (q := 91) hc dX8_obey_90 rfl ?_
      refine tt_al0 (q := 92) hc dX8_obey_91 rfl ?_
      refine tt_getR (q := 95) hc fl_X8_73 (by first | assumption | exact ⟨by decide, _, rfl, rfl⟩) dX8_obey_92 rfl ?_
      refine tt_il1 (q := 96) hc dX8_obey_95 rfl ?_
      refine tt_cV1 (q := 99) (d' := 0) (ci := 6) hc (by first | decide | omega) kmX6_value ml_X8_284 (by first | assumption | exact ⟨by decide, _, rfl⟩) rfl (Nat.le_of_ble_eq_true rfl) dX8_obey_96 rfl ?_
      refine c_X6_value h19 hlen hW hk hq g2 g3 g4 ?_
      dsimp only [Option.toList, List.nil_append, List.cons_append]
      refine tt_cV1 (q := 102) (d' := 3) (ci := 8) hc (by first | decide | omega) kmX8_take ml_X8_293 (by first | assumption | exact ⟨by decide, _, rfl⟩) rfl (Nat.le_of_ble_eq_true rfl) dX8_obey_99 rfl ?_
      refine c_X8_take hC (fun ν hf hR => ?_)
      dsimp only [Option.toList, List.nil_append, List.cons_append]
      refine tt_reti hX rfl dX8_obey_102 ?_
      exact hQ ν hf hR
    · refine tt_tswI (t := 103) hc dX8_obey_22 (by decide) (by decide) rfl rfl ?_
      refine tt_al0 (q := 104) hc dX8_obey_103 rfl ?_
      refine tt_al0 (q := 105) hc dX8_obey_104 rfl ?_
      refine tt_getR (q := 108) hc fl_X8_73 (by first | assumption | exact ⟨by decide, _, rfl, rfl⟩) dX8_obey_105 rfl ?_
      refine tt_il1 (q := 109) hc dX8_obey_108 rfl ?_
      refine tt_cV1 (q := 112) (d' := 0) (ci := 6) hc (by first | decide | omega) kmX6_pointSet ml_X8_296 (by first | assumption | exact ⟨by decide, _, rfl⟩) rfl (Nat.le_of_ble_eq_true rfl) dX8_obey_109 rfl ?_
      refine c_X6_pointSet h19 hlen hW hk hq g2 g3 g4 ?_
      dsimp only [Option.toList, List.nil_append, List.cons_append]
      refine tt_cV1 (q := 115) (d' := 3) (ci := 8) hc (by first | decide | omega) kmX8_body ml_X8_299 (by first | assumption | exact ⟨by decide, _, rfl⟩) rfl (Nat.le_of_ble_eq_true rfl) dX8_obey_112 rfl ?_
      refine c_X8_body hC (fun ν hf hR => ?_)
      dsimp only [Option.toList, List.nil_append, List.cons_append]
      refine tt_reti hX rfl dX8_obey_115 ?_
      exact hQ ν hf hR
  refine tt_al0 (q := 1) hc dX8_obey_0 rfl ?_
  refine tt_getR (q := 4) hc fl_X8_73 (by first | assumption | exact ⟨by decide, _, rfl, rfl⟩) dX8_obey_1 rfl ?_
  refine tt_getR (q := 7) hc fl_X8_275 (by first | assumption | exact ⟨by decide, _, rfl, rfl⟩) dX8_obey_4 rfl ?_
  refine tt_il1 (q := 8) hc dX8_obey_7 rfl ?_
  refine tt_ialdE (q := 9) hc a20 hk hw dX8_obey_8 rfl ?_
  refine tt_is2 (q := 10) hc dX8_obey_9 rfl (by decide) ?_
  refine tt_il2 (q := 11) hc dX8_obey_10 rfl ?_
  refine tt_iconst (v := nI 5) (q := 12) hc rfl dX8_obey_11 rfl ?_
  first | (with_reducible refine chk2 ?_; refine tt_icgtN (t := 21) (q := 15) hc (by omega) (by omega) dX8_obey_12 rfl rfl (fun c_12 => ?_) (fun c_12 => ?_)) | refine tt_icgt (t := 21) (q := 15) hc dX8_obey_12 rfl rfl (fun c_12 => ?_) (fun c_12 => ?_)
  · refine tt_il2 (q := 22) hc dX8_obey_21 rfl ?_
    exact SW (by omega)
  · exact SM (by omega)
