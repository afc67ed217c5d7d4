/-! THE CLASS: the text is obeyed -/
theorem spl_ok {tx : List Nat} : ∀ (m p : Nat) (q : Nat × Nat × Nat), p ≤ tx.length → q ∈ (spl tx m p).2 → q.1 < 12 ∧ q.2.1 ≤ q.2.2 ∧ q.2.2 ≤ tx.length ∧ ∀ i, q.2.1 ≤ i → i < q.2.2 → 48 ≤ tx.getD i 0 ∧ tx.getD i 0 ≤ 57
  | 0, _, _, _, h => by cases h
  | m + 1, p, q, hp, h => by
    have b1 := bhN_le tx 97 122 (tx.length - p) p
    have b2 := bhN_le tx 48 57 (tx.length - bh tx 97 122 p) (bh tx 97 122 p)
    have b3 := fun i h1 h2 => bhN_in (tx := tx) (a := 48) (b := 57) (tx.length - bh tx 97 122 p) (bh tx 97 122 p) i h1 h2
    rw [← bh] at b1
    rw [← bh] at b2 b3
    rw [spl] at h
    generalize bh tx 97 122 p = e1 at *
    generalize bh tx 48 57 e1 = e2 at *
    cases hw : wo tx p e1 with
    | none =>
      rw [hw] at h
      cases h
    | some w =>
      have hwl := wo_lt hw
      rw [hw] at h
      dsimp only at h
      have hd : ∀ q : Nat × Nat × Nat, q = (w, e1, e2) → q.1 < 12 ∧ q.2.1 ≤ q.2.2 ∧ q.2.2 ≤ tx.length ∧ ∀ i, q.2.1 ≤ i → i < q.2.2 → 48 ≤ tx.getD i 0 ∧ tx.getD i 0 ≤ 57 := by
        intro q e
        subst e
        exact ⟨hwl, b2.1, (show e2 ≤ tx.length by omega), b3⟩
      split at h
      · cases h
      · split at h
        · exact hd q (List.mem_singleton.mp h)
        · split at h
          · rcases List.mem_cons.mp h with e | e
            · exact hd q e
            · exact spl_ok m (e2 + 1) q (by omega) e
          · exact hd q (List.mem_singleton.mp h)
theorem spl_len {tx : List Nat} : ∀ (m p : Nat), (spl tx m p).2.length ≤ m
  | 0, _ => Nat.le_refl _
  | m + 1, p => by
    rw [spl]
    cases wo tx p (bh tx 97 122 p) with
    | none => exact Nat.zero_le _
    | some w =>
      dsimp only
      split
      · exact Nat.zero_le _
      · split
        · exact Nat.succ_le_succ (Nat.zero_le _)
        · split
          · exact Nat.succ_le_succ (spl_len m _)
          · exact Nat.succ_le_succ (Nat.zero_le _)
theorem WD.frm {μ μ' : Mem} {l : List Nat} {ws : List (Nat × Nat × Nat)} (h : WD μ ws) (hf : frm l μ μ') (h1 : 18 ∉ l) (h2 : 20 ∉ l) (h3 : 21 ∉ l) (h4 : 22 ∉ l) : WD μ' ws := by
  refine ⟨by rw [hf 18 h1]; exact h.1, fun i q hq => ?_⟩
  rw [hf 20 h2, hf 21 h3, hf 22 h4]
  exact h.2 i q hq
def sp_obey (tx : List Nat) (q : Nat × Nat × Nat) (S : ST) : Int32 × ST :=
  if q.1 ≤ 5 then sp_make (nI q.1) S else if q.1 = 6 then sp_bodies (nI 3) S else if q.1 = 7 then sp_bodies (nI 4) S else if q.1 = 8 then sp_flip (nI (valN tx (q.2.2 - q.2.1) q.2.1 0)) S else if q.1 = 9 then sp_keep S else if q.1 = 10 then sp_take (nI (valN tx (q.2.2 - q.2.1) q.2.1 0)) S else sp_body (m1I (psN tx (q.2.2 - q.2.1) q.2.1 0)) S
set_option maxHeartbeats 8000000 in
theorem c_X8_obey {l : Launch} {tx : List Nat} {ws : List (Nat × Nat × Nat)} {k : Nat} {q : Nat × Nat × Nat} {S : ST} {μ : Mem} {Q : Option Value → Mem → Prop} (hC : CR μ S) (h19 : ∀ i b, tx[i]? = some b → μ 19 i = nI b) (hlen : tx.length ≤ 120) (hW : WD μ ws) (hk : k < 12) (hq : ws[k]? = some q) (hok : q.1 < 12 ∧ q.2.1 ≤ q.2.2 ∧ q.2.2 ≤ tx.length ∧ ∀ i, q.2.1 ≤ i → i < q.2.2 → 48 ≤ tx.getD i 0 ∧ tx.getD i 0 ≤ 57) (hQ : ∀ μ', frm cO μ μ' → CR μ' (sp_obey tx q S).2 → Q (some (.int (sp_obey tx q S).1)) μ') : CC l 5 mX8_obey [.ref 0, .int (nI k)] μ Q := by
  refine CC.of (M := mX8_obey) (by decide +kernel) rfl (fun v h => by simp at h; rcases h with rfl | rfl <;> rfl) (Nat.le_of_ble_eq_true rfl) (fun X hX => ?_)
  have hc := hX.cx
  obtain ⟨g1, g2, g3, g4⟩ := hok
  have hw := (hW.2 k q hq).1
  have a20 := HA20
  obtain ⟨w, e1, e2⟩ := q
  dsimp only at g1 g2 g3 g4 hw
  unfold sp_obey at hQ
  dsimp only at hQ
  have SM : w ≤ 5 → TT X 15 [.ref 0, .int (nI k), .int (nI w)] [] μ := by
    intro h5
    rw [if_pos h5] at hQ
    refine tt_al0 (q := 16) hc dX8_obey_15 rfl ?_
    refine tt_il2 (q := 17) hc dX8_obey_16 rfl ?_
    refine tt_cV1 (q := 20) (d' := 3) (ci := 8) hc (by first | decide | omega) kmX8_make ml_X8_278 (by first | assumption | exact ⟨by decide, _, rfl⟩) rfl (Nat.le_of_ble_eq_true rfl) dX8_obey_17 rfl ?_
    refine c_X8_make hC (fun ν hf hR => ?_)
    dsimp only [Option.toList, List.nil_append, List.cons_append]
    refine tt_reti hX rfl dX8_obey_20 ?_
    exact hQ ν hf hR
  have SW : ¬ w ≤ 5 → TT X 22 [.ref 0, .int (nI k), .int (nI w)] [.int (nI w)] μ := by
    intro h5
    rw [if_neg h5] at hQ
    rcases (show w = 6 ∨ w = 7 ∨ w = 8 ∨ w = 9 ∨ w = 10 ∨ w = 11 by omega) with rfl | rfl | rfl | rfl | rfl | rfl
    · refine tt_tswI (t := 60) hc dX8_obey_22 (by decide) (by decide) rfl rfl ?_
      refine tt_al0 (q := 61) hc dX8_obey_60 rfl ?_
      refine tt_iconst (v := nI 3) (q := 62) hc rfl dX8_obey_61 rfl ?_
      refine tt_cV1 (q := 65) (d' := 1) (ci := 8) hc (by first | decide | omega) kmX8_bodies ml_X8_281 (by first | assumption | exact ⟨by decide, _, rfl⟩) rfl (Nat.le_of_ble_eq_true rfl) dX8_obey_62 rfl ?_
      refine c_X8_bodies hC (fun ν hf hR => ?_)
      dsimp only [Option.toList, List.nil_append, List.cons_append]
      refine tt_reti hX rfl dX8_obey_65 ?_
      exact hQ ν hf hR
    · refine tt_tswI (t := 66) hc dX8_obey_22 (by decide) (by decide) rfl rfl ?_
      refine tt_al0 (q := 67) hc dX8_obey_66 rfl ?_
      refine tt_iconst (v := nI 4) (q := 68) hc rfl dX8_obey_67 rfl ?_
      refine tt_cV1 (q := 71) (d' := 1) (ci := 8) hc (by first | decide | omega) kmX8_bodies ml_X8_281 (by first | assumption | exact ⟨by decide, _, rfl⟩) rfl (Nat.le_of_ble_eq_true rfl) dX8_obey_68 rfl ?_
      refine c_X8_bodies hC (fun ν hf hR => ?_)
      dsimp only [Option.toList, List.nil_append, List.cons_append]
      refine tt_reti hX rfl dX8_obey_71 ?_
      exact hQ ν hf hR
    · refine tt_tswI (t := 72) hc dX8_obey_22 (by decide) (by decide) rfl rfl ?_
      refine tt_al0 (q := 73) hc dX8_obey_72 rfl ?_
      refine tt_al0 (q := 74) hc dX8_obey_73 rfl ?_
      refine tt_getR (q := 77) hc fl_X8_73 (by first | assumption | exact ⟨by decide, _, rfl, rfl⟩) dX8_obey_74 rfl ?_
      refine tt_il1 (q := 78) hc dX8_obey_77 rfl ?_
      refine tt_cV1 (q := 81) (d' := 0) (ci := 6) hc (by first | decide | omega) kmX6_value ml_X8_284 (by first | assumption | exact ⟨by decide, _, rfl⟩) rfl (Nat.le_of_ble_eq_true rfl) dX8_obey_78 rfl ?_
      refine c_X6_value h19 hlen hW hk hq g2 g3 g4 ?_
      dsimp only [Option.toList, List.nil_append, List.cons_append]
      refine tt_cV1 (q := 84) (d' := 4) (ci := 8) hc (by first | decide | omega) kmX8_flip ml_X8_287 (by first | assumption | exact ⟨by decide, _, rfl⟩) rfl (Nat.le_of_ble_eq_true rfl) dX8_obey_81 rfl ?_
      refine c_X8_flip hC (fun ν hf hR => ?_)
      dsimp only [Option.toList, List.nil_append, List.cons_append]
      refine tt_reti hX rfl dX8_obey_84 ?_
      exact hQ ν hf hR
    · refine tt_tswI (t := 85) hc dX8_obey_22 (by decide) (by decide) rfl rfl ?_
      refine tt_al0 (q := 86) hc dX8_obey_85 rfl ?_
      refine tt_cV0 (q := 89) (d' := 3) (ci := 8) hc (by first | decide | omega) kmX8_keep ml_X8_290 (by first | assumption | exact ⟨by decide, _, rfl⟩) rfl (Nat.le_of_ble_eq_true rfl) dX8_obey_86 rfl ?_
      refine c_X8_keep hC (fun ν hf hR => ?_)
      dsimp only [Option.toList, List.nil_append, List.cons_append]
      refine tt_reti hX rfl dX8_obey_89 ?_
      exact hQ ν hf hR
    · refine tt_tswI (t := 90) hc dX8_obey_22 (by decide) (by decide) rfl rfl ?_
      refine tt_al0 (q := 91) hc dX8_obey_90 rfl ?_
      refine tt_al0 (q := 92) hc dX8_obey_91 rfl ?_
      refine tt_getR (q := 95) hc fl_X8_73 (by first | assumption | exact ⟨by decide, _, rfl, rfl⟩) dX8_obey_92 rfl ?_
      refine tt_il1 (q := 96) hc dX8_obey_95 rfl ?_
      refine tt_cV1 (q := 99) (d' := 0) (ci := 6) hc (by first | decide | omega) kmX6_value ml_X8_284 (by first | assumption | exact ⟨by decide, _, rfl⟩) rfl (Nat.le_of_ble_eq_true rfl) dX8_obey_96 rfl ?_
      refine c_X6_value h19 hlen hW hk hq g2 g3 g4 ?_
      dsimp only [Option.toList, List.nil_append, List.cons_append]
      refine tt_cV1 (q := 102) (d' := 3) (ci := 8) hc (by first | decide | omega) kmX8_take ml_X8_293 (by first | assumption | exact ⟨by decide, _, rfl⟩) rfl (Nat.le_of_ble_eq_true rfl) dX8_obey_99 rfl ?_
      refine c_X8_take hC (fun ν hf hR => ?_)
      dsimp only [Option.toList, List.nil_append, List.cons_append]
      refine tt_reti hX rfl dX8_obey_102 ?_
      exact hQ ν hf hR
    · refine tt_tswI (t := 103) hc dX8_obey_22 (by decide) (by decide) rfl rfl ?_
      refine tt_al0 (q := 104) hc dX8_obey_103 rfl ?_
      refine tt_al0 (q := 105) hc dX8_obey_104 rfl ?_
      refine tt_getR (q := 108) hc fl_X8_73 (by first | assumption | exact ⟨by decide, _, rfl, rfl⟩) dX8_obey_105 rfl ?_
      refine tt_il1 (q := 109) hc dX8_obey_108 rfl ?_
      refine tt_cV1 (q := 112) (d' := 0) (ci := 6) hc (by first | decide | omega) kmX6_pointSet ml_X8_296 (by first | assumption | exact ⟨by decide, _, rfl⟩) rfl (Nat.le_of_ble_eq_true rfl) dX8_obey_109 rfl ?_
      refine c_X6_pointSet h19 hlen hW hk hq g2 g3 g4 ?_
      dsimp only [Option.toList, List.nil_append, List.cons_append]
      refine tt_cV1 (q := 115) (d' := 3) (ci := 8) hc (by first | decide | omega) kmX8_body ml_X8_299 (by first | assumption | exact ⟨by decide, _, rfl⟩) rfl (Nat.le_of_ble_eq_true rfl) dX8_obey_112 rfl ?_
      refine c_X8_body hC (fun ν hf hR => ?_)
      dsimp only [Option.toList, List.nil_append, List.cons_append]
      refine tt_reti hX rfl dX8_obey_115 ?_
      exact hQ ν hf hR
  refine tt_al0 (q := 1) hc dX8_obey_0 rfl ?_
  refine tt_getR (q := 4) hc fl_X8_73 (by first | assumption | exact ⟨by decide, _, rfl, rfl⟩) dX8_obey_1 rfl ?_
  refine tt_getR (q := 7) hc fl_X8_275 (by first | assumption | exact ⟨by decide, _, rfl, rfl⟩) dX8_obey_4 rfl ?_
  refine tt_il1 (q := 8) hc dX8_obey_7 rfl ?_
  refine tt_ialdE (q := 9) hc a20 hk hw dX8_obey_8 rfl ?_
  refine tt_is2 (q := 10) hc dX8_obey_9 rfl (by decide) ?_
  refine tt_il2 (q := 11) hc dX8_obey_10 rfl ?_
  refine tt_iconst (v := nI 5) (q := 12) hc rfl dX8_obey_11 rfl ?_
  first | (with_reducible refine chk2 ?_; refine tt_icgtN (t := 21) (q := 15) hc (by omega) (by omega) dX8_obey_12 rfl rfl (fun c_12 => ?_) (fun c_12 => ?_)) | refine tt_icgt (t := 21) (q := 15) hc dX8_obey_12 rfl rfl (fun c_12 => ?_) (fun c_12 => ?_)
  · refine tt_il2 (q := 22) hc dX8_obey_21 rfl ?_
    exact SW (by omega)
  · exact SM (by omega)
def oby (tx : List Nat) : List (Nat × Nat × Nat) → Nat → ST → Nat × ST
  | [], n, S => (n, S)
  | q :: r, n, S => oby tx r (if 0 ≤ (sp_obey tx q S).1 then n + 1 else n) (sp_obey tx q S).2
def fgt (S : ST) : ST := match S with
  | (K, B, _, ks, im, ls, tx, pp) => (K, B, [], ks, im, ls, tx, pp)
def sp_read (S : ST) : Int32 × ST := match S with
  | (K, B, hs, ks, im, ls, tx, pp) => match (spl tx 12 0).1 with
    | some p => (-100 - nI p, (K, B, hs, ks, im, ls, [], pp))
    | none => (nI (oby tx (spl tx 12 0).2 0 (K, B, hs, ks, im, ls, [], pp)).1, fgt (oby tx (spl tx 12 0).2 0 (K, B, hs, ks, im, ls, [], pp)).2)
theorem spl_flt {tx : List Nat} : ∀ (m p f : Nat), (spl tx m p).1 = some f → p ≤ tx.length → f ≤ tx.length
  | 0, p, f, h, hp => by
    cases h
    omega
  | m + 1, p, f, h, hp => by
    have b1 := bhN_le tx 97 122 (tx.length - p) p
    have b2 := bhN_le tx 48 57 (tx.length - bh tx 97 122 p) (bh tx 97 122 p)
    rw [← bh] at b1
    rw [← bh] at b2
    rw [spl] at h
    generalize bh tx 97 122 p = e1 at *
    generalize bh tx 48 57 e1 = e2 at *
    cases hw : wo tx p e1 with
    | none =>
      rw [hw] at h
      cases h
      omega
    | some w =>
      rw [hw] at h
      dsimp only at h
      split at h
      · cases h
        omega
      · split at h
        · cases h
        · split at h
          · exact spl_flt m (e2 + 1) f h (by omega)
          · cases h
            omega
set_option maxHeartbeats 8000000 in
theorem c_X8_read {l : Launch} {S : ST} {μ : Mem} {Q : Option Value → Mem → Prop} (hC : CR μ S) (hQ : ∀ μ', frm cL μ μ' → CR μ' (sp_read S).2 → Q (some (.int (sp_read S).1)) μ') : CC l 7 mX8_read [.ref 0] μ Q := by
  refine CC.of (M := mX8_read) (by decide +kernel) rfl (fun v h => by simp at h; subst h; rfl) (Nat.le_of_ble_eq_true rfl) (fun X hX => ?_)
  have hc := hX.cx
  obtain ⟨K, B, hs, ks, im, ls, tx, pp⟩ := S
  obtain ⟨a1, a2, a3, a4, a5, a6, a7⟩ := id hC
  have hlen := a6.1
  have hsl := spl_len (tx := tx) 12 0
  dsimp only [sp_read] at hQ
  generalize hws : (spl tx 12 0).2 = ws at *
  have hok : ∀ q ∈ ws, q.1 < 12 ∧ q.2.1 ≤ q.2.2 ∧ q.2.2 ≤ tx.length ∧ ∀ i, q.2.1 ≤ i → i < q.2.2 → 48 ≤ tx.getD i 0 ∧ tx.getD i 0 ≤ 57 := fun q hq => spl_ok 12 0 q (Nat.zero_le _) (by rw [hws]; exact hq)
  have L : ∀ (r : List (Nat × Nat × Nat)) (i n : Nat) (S : ST) (ν : Mem) (w1 : Value), ws.drop i = r → i ≤ ws.length → n ≤ i → frm cL μ ν → CR ν S → (∀ j b, tx[j]? = some b → ν 19 j = nI b) → WD ν ws → (∀ μ', frm cL μ μ' → CR μ' (fgt (oby tx r n S).2) → Q (some (.int (nI (oby tx r n S).1))) μ') → TT X 29 [.ref 0, w1, .int (nI n), .int (nI i)] [] ν := by
    intro r
    induction r with
    | nil =>
      intro i n S ν w1 hr hi hn hf hS h19 hW h
      have ho := drop_nil hr
      have e5 := hW.1
      obtain ⟨K1, B1, hs1, ks1, im1, ls1, tx1, pp1⟩ := S
      obtain ⟨b1, b2, b3, b4, b5, b6, b7⟩ := id hS
      refine tt_il3 (q := 30) hc dX8_read_29 rfl ?_
      refine tt_al0 (q := 31) hc dX8_read_30 rfl ?_
      refine tt_getR (q := 34) hc fl_X8_73 (by first | assumption | exact ⟨by decide, _, rfl, rfl⟩) dX8_read_31 rfl ?_
      refine tt_getI (q := 37) hc fl_X8_246 (by first | assumption | exact ⟨by decide, _, rfl, _, rfl⟩) dX8_read_34 rfl ?_
      rw [e5]
      first | (with_reducible refine chk2 ?_; refine tt_icgeN (t := 57) (q := 40) hc (by omega) (by omega) dX8_read_37 rfl rfl (fun c_37 => ?_) (fun c_37 => ?_)) | refine tt_icge (t := 57) (q := 40) hc dX8_read_37 rfl rfl (fun c_37 => ?_) (fun c_37 => ?_)
      · refine tt_al0 (q := 58) hc dX8_read_57 rfl ?_
        refine tt_getR (q := 61) hc fl_X8_28 (by first | assumption | exact ⟨by decide, _, rfl, rfl⟩) dX8_read_58 rfl ?_
        refine tt_cV0 (q := 64) (d' := 0) (ci := 2) hc (by first | decide | omega) kmX2_forget ml_X8_89 (by first | assumption | exact ⟨by decide, _, rfl⟩) rfl (Nat.le_of_ble_eq_true rfl) dX8_read_61 rfl ?_
        refine c_X2_forget b2 (fun ν1 hf1 hP => ?_)
        dsimp only [Option.toList, List.nil_append, List.cons_append]
        refine tt_il2 (q := 65) hc dX8_read_64 rfl ?_
        refine tt_reti hX rfl dX8_read_65 ?_
        exact h ν1 (hf.tr (hf1.cl (by decide))) ⟨b1.frm hf1 (by decide) (by decide), hP _, b3.frm hf1 (by decide), b4.frm hf1 (by decide) (by decide) (by decide), b5.frm hf1 (by decide) (by decide), b6.frm hf1 (by decide) (by decide), b7.frm hf1 (by decide) (by decide)⟩
      · omega
    | cons q r ih =>
      intro i n S ν w1 hr hi hn hf hS h19 hW h
      obtain ⟨ho, hr2⟩ := drop_cons hr
      have lo := (List.getElem?_eq_some_iff.mp ho).1
      have e5 := hW.1
      rw [oby] at h
      refine tt_il3 (q := 30) hc dX8_read_29 rfl ?_
      refine tt_al0 (q := 31) hc dX8_read_30 rfl ?_
      refine tt_getR (q := 34) hc fl_X8_73 (by first | assumption | exact ⟨by decide, _, rfl, rfl⟩) dX8_read_31 rfl ?_
      refine tt_getI (q := 37) hc fl_X8_246 (by first | assumption | exact ⟨by decide, _, rfl, _, rfl⟩) dX8_read_34 rfl ?_
      rw [e5]
      first | (with_reducible refine chk2 ?_; refine tt_icgeN (t := 57) (q := 40) hc (by omega) (by omega) dX8_read_37 rfl rfl (fun c_37 => ?_) (fun c_37 => ?_)) | refine tt_icge (t := 57) (q := 40) hc dX8_read_37 rfl rfl (fun c_37 => ?_) (fun c_37 => ?_)
      · omega
      · refine tt_al0 (q := 41) hc dX8_read_40 rfl ?_
        refine tt_il3 (q := 42) hc dX8_read_41 rfl ?_
        refine tt_cV1 (q := 45) (d' := 5) (ci := 8) hc (by first | decide | omega) kmX8_obey ml_X8_249 (by first | assumption | exact ⟨by decide, _, rfl⟩) rfl (Nat.le_of_ble_eq_true rfl) dX8_read_42 rfl ?_
        refine c_X8_obey hS h19 hlen hW (by omega) ho (hok q (List.mem_of_getElem? ho)) (fun ν1 hf1 hS1 => ?_)
        have hf2 : frm cL ν ν1 := hf1.mono (by decide)
        have h192 : ∀ j b, tx[j]? = some b → ν1 19 j = nI b := fun j b hb => by rw [hf1 19 (by decide)]; exact h19 j b hb
        have hW2 := hW.frm hf1 (by decide) (by decide) (by decide) (by decide)
        dsimp only [Option.toList, List.nil_append, List.cons_append]
        refine tt_iflt (t := 51) (q := 48) hc dX8_read_45 rfl rfl (fun c_45 => ?_) (fun c_45 => ?_)
        · first | refine tt_inc3 (q := 54) hc dX8_read_51 rfl (by decide) (incN _) ?_ | refine tt_inc3 (q := 54) hc dX8_read_51 rfl (by decide) rfl ?_
          refine tt_goto (t := 29) hc dX8_read_54 rfl ?_
          first
          | (rw [if_pos (Int32.not_lt.mp c_45)] at h; exact ih (i + 1) (n + 1) _ ν1 _ hr2 (by omega) (by omega) (hf.tr hf2) hS1 h192 hW2 h)
          | (rw [if_pos c_45] at h; exact ih (i + 1) (n + 1) _ ν1 _ hr2 (by omega) (by omega) (hf.tr hf2) hS1 h192 hW2 h)
          | (rw [if_neg c_45] at h; exact ih (i + 1) n _ ν1 _ hr2 (by omega) (by omega) (hf.tr hf2) hS1 h192 hW2 h)
          | (rw [if_neg (Int32.not_le.mpr c_45)] at h; exact ih (i + 1) n _ ν1 _ hr2 (by omega) (by omega) (hf.tr hf2) hS1 h192 hW2 h)
        · first | refine tt_inc2 (q := 51) hc dX8_read_48 rfl (by decide) (incN _) ?_ | refine tt_inc2 (q := 51) hc dX8_read_48 rfl (by decide) rfl ?_
          first | refine tt_inc3 (q := 54) hc dX8_read_51 rfl (by decide) (incN _) ?_ | refine tt_inc3 (q := 54) hc dX8_read_51 rfl (by decide) rfl ?_
          refine tt_goto (t := 29) hc dX8_read_54 rfl ?_
          first
          | (rw [if_pos (Int32.not_lt.mp c_45)] at h; exact ih (i + 1) (n + 1) _ ν1 _ hr2 (by omega) (by omega) (hf.tr hf2) hS1 h192 hW2 h)
          | (rw [if_pos c_45] at h; exact ih (i + 1) (n + 1) _ ν1 _ hr2 (by omega) (by omega) (hf.tr hf2) hS1 h192 hW2 h)
          | (rw [if_neg c_45] at h; exact ih (i + 1) n _ ν1 _ hr2 (by omega) (by omega) (hf.tr hf2) hS1 h192 hW2 h)
          | (rw [if_neg (Int32.not_le.mpr c_45)] at h; exact ih (i + 1) n _ ν1 _ hr2 (by omega) (by omega) (hf.tr hf2) hS1 h192 hW2 h)
  have F : ∀ (o : Option Nat) (ν : Mem), o = (spl tx 12 0).1 → frm cL μ ν → CR ν (K, B, hs, ks, im, ls, [], pp) → (∀ j b, tx[j]? = some b → ν 19 j = nI b) → WD ν ws → TT X 16 [.ref 0, .int (ftI o), .long 0, .long 0] [] ν := by
    intro o ν ho hf hS h19 hW
    rw [← ho] at hQ
    cases o with
    | none =>
      rw [show ftI none = -5 from rfl]
      refine tt_il1 (q := 17) hc dX8_read_16 rfl ?_
      refine tt_iflt (t := 25) (q := 20) hc dX8_read_17 rfl rfl (fun c_17 => ?_) (fun c_17 => ?_)
      · refine tt_iconst (v := nI 0) (q := 26) hc rfl dX8_read_25 rfl ?_
        refine tt_is2 (q := 27) hc dX8_read_26 rfl (by decide) ?_
        refine tt_iconst (v := nI 0) (q := 28) hc rfl dX8_read_27 rfl ?_
        refine tt_is3 (q := 29) hc dX8_read_28 rfl (by decide) ?_
        exact L ws 0 0 _ ν _ List.drop_zero (Nat.zero_le _) (Nat.le_refl _) hf hS h19 hW hQ
      · exact absurd (by decide) c_17
    | some p =>
      have hp := spl_flt 12 0 p ho.symm (Nat.zero_le _)
      rw [show ftI (some p) = nI p from rfl]
      refine tt_il1 (q := 17) hc dX8_read_16 rfl ?_
      refine tt_iflt (t := 25) (q := 20) hc dX8_read_17 rfl rfl (fun c_17 => ?_) (fun c_17 => ?_)
      · exact absurd c_17 (nI_pos (by omega))
      · refine tt_bipush (v := -100) (q := 22) hc (by decide) dX8_read_20 rfl ?_
        refine tt_il1 (q := 23) hc dX8_read_22 rfl ?_
        refine tt_isub (q := 24) hc dX8_read_23 rfl ?_
        refine tt_reti hX rfl dX8_read_24 ?_
        exact hQ ν hf hS
  refine tt_al0 (q := 1) hc dX8_read_0 rfl ?_
  refine tt_getR (q := 4) hc fl_X8_73 (by first | assumption | exact ⟨by decide, _, rfl, rfl⟩) dX8_read_1 rfl ?_
  refine tt_cV0 (q := 7) (d' := 6) (ci := 6) hc (by first | decide | omega) kmX6_split ml_X8_243 (by first | assumption | exact ⟨by decide, _, rfl⟩) rfl (Nat.le_of_ble_eq_true rfl) dX8_read_4 rfl ?_
  refine c_X6_split a6 (fun ν hf hY hW => ?_)
  rw [hws] at hW
  dsimp only [Option.toList, List.nil_append, List.cons_append]
  refine tt_is1 (q := 8) hc dX8_read_7 rfl (by decide) ?_
  refine tt_al0 (q := 9) hc dX8_read_8 rfl ?_
  refine tt_getR (q := 12) hc fl_X8_73 (by first | assumption | exact ⟨by decide, _, rfl, rfl⟩) dX8_read_9 rfl ?_
  refine tt_iconst (v := nI 0) (q := 13) hc rfl dX8_read_12 rfl ?_
  refine tt_putI (q := 16) hc fp_X8_240 (by first | assumption | exact ⟨by decide, _, rfl, _, rfl⟩) dX8_read_13 rfl ?_
  refine F _ _ rfl ((hf.cl (by decide)).tr ((frm.set (i := 18)).cl (by decide))) ?_ ?_ ?_
  · have hf3 : frm [18, 20, 21, 22] ν (mset ν 18 (upd (ν 18) 1 0)) := (frm.set (i := 18)).mono (by simp)
    have hf4 := hf.tr hf3
    exact ⟨a1.frm hf4 (by decide) (by decide), a2.frm hf4 (by decide), a3.frm hf4 (by decide), a4.frm hf4 (by decide) (by decide) (by decide), a5.frm hf4 (by decide) (by decide), ⟨Nat.zero_le _, rfl, fun i b hb => (by cases hb), fun b hb => (by cases hb)⟩, a7.frm hf4 (by decide) (by decide)⟩
  · exact hY.2.2.1
  · exact ⟨hW.1, hW.2⟩
