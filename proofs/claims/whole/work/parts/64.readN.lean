/-! THE MODEL: the text read -/
/-- what is wanted of a text behind a word that ends at e, m words at most behind it -/
def splE (tx : List Nat) (m e : Nat) : Option Nat × List (Nat × Nat × Nat) := if tx.length ≤ e then (none, []) else if tx.getD e 0 = 32 then spl tx m (e + 1) else (some e, [])
theorem spl_E {tx : List Nat} {m p w : Nat} (hw : wo tx p (bh tx 97 122 p) = some w) (hg : ¬ (bh tx 48 57 (bh tx 97 122 p) - bh tx 97 122 p < fewN w ∨ mostN w < bh tx 48 57 (bh tx 97 122 p) - bh tx 97 122 p)) : spl tx (m + 1) p = ((splE tx m (bh tx 48 57 (bh tx 97 122 p))).1, (w, bh tx 97 122 p, bh tx 48 57 (bh tx 97 122 p)) :: (splE tx m (bh tx 48 57 (bh tx 97 122 p))).2) := by
  rw [spl, hw]
  dsimp only
  rw [if_neg hg]
  unfold splE
  split
  · rfl
  · split
    · rfl
    · rfl
theorem spl_F {tx : List Nat} {m p : Nat} (h : wo tx p (bh tx 97 122 p) = none ∨ ∃ w, wo tx p (bh tx 97 122 p) = some w ∧ (bh tx 48 57 (bh tx 97 122 p) - bh tx 97 122 p < fewN w ∨ mostN w < bh tx 48 57 (bh tx 97 122 p) - bh tx 97 122 p)) : spl tx (m + 1) p = (some p, []) := by
  rw [spl]
  rcases h with h | ⟨w, h, hg⟩
  · rw [h]
  · rw [h]
    dsimp only
    rw [if_pos hg]
theorem mx_mg2 {μ ν : Mem} {tx : List Nat} (h : MX μ tx) (hf : mg [39, 25] [20, 21] μ ν) : MX ν tx := h.mg hf (by decide) (by decide)
set_option maxHeartbeats 4000000 in
theorem c_X9_takesAll {l : Launch} {tx : List Nat} {μ : Mem} {Q : Option Value → Mem → Prop} (hX6 : MX μ tx) (hF : ∀ f, (spl tx 12 0).1 = some f → ∀ μ', mg [39, 25] [20, 21] μ μ' → μ' 24 20 = nI f → Q (some (.int (nI 0))) μ') (hT : (spl tx 12 0).1 = none → ∀ μ', mg [39, 25] [20, 21] μ μ' → WM μ' tx (spl tx 12 0).2 → Q (some (.int (nI 1))) μ') : CC l 6 mX9_takesAll [.ref 24] μ Q := by
  refine CC.of (M := mX9_takesAll) (by decide +kernel) rfl (fun v h => by simp at h; subst h; rfl) (Nat.le_of_ble_eq_true rfl) (fun X hX => ?_)
  have hc := hX.cx
  have h1 := hX6.1
  have a38 := HA38
  generalize hR : spl tx 12 0 = R at hF hT
  have L : ∀ (m e : Nat) (dn : List (Nat × Nat × Nat)) (ν : Mem), dn.length + m = 12 → e ≤ tx.length → mg [39, 25] [20, 21] μ ν → MX ν tx → WM ν tx dn → ν 24 20 = nI e → ((splE tx m e).1, dn ++ (splE tx m e).2) = R → TT X 19 [.ref 24] [] ν := by
    intro m
    induction m with
    | zero =>
      intro e dn ν hm he hf hXν hW e20 hR
      have e19 := hXν.2.1
      have e21 := hW.1
      unfold splE at hR
      by_cases c1 : tx.length ≤ e
      · rw [if_pos c1] at hR
        subst hR
        refine tt_al0 (q := 20) hc dX9_takesAll_19 rfl ?_
        refine tt_getI (q := 23) hc fl_X9_269 (by first | assumption | exact ⟨by decide, _, rfl, _, rfl⟩) dX9_takesAll_20 rfl ?_
        rw [e20]
        refine tt_al0 (q := 24) hc dX9_takesAll_23 rfl ?_
        refine tt_getI (q := 27) hc fl_X9_243 (by first | assumption | exact ⟨by decide, _, rfl, _, rfl⟩) dX9_takesAll_24 rfl ?_
        rw [e19]
        first | (with_reducible refine chk2 ?_; refine tt_icgeN (t := 74) (q := 30) hc (by omega) (by omega) dX9_takesAll_27 rfl rfl (fun c_27 => ?_) (fun c_27 => ?_)) | refine tt_icge (t := 74) (q := 30) hc dX9_takesAll_27 rfl rfl (fun c_27 => ?_) (fun c_27 => ?_)
        · refine tt_iconst (v := nI 1) (q := 75) hc rfl dX9_takesAll_74 rfl ?_
          refine tt_retz hX rfl (by first | decide | exact bI_01 _) dX9_takesAll_75 ?_
          refine hT rfl ν hf ?_
          rw [List.append_nil]
          exact hW
        · omega
      · rw [if_neg c1] at hR
        have hx := hXν.at (i := e) (by omega)
        by_cases c2 : tx.getD e 0 = 32
        · rw [if_pos c2, spl] at hR
          subst hR
          refine tt_al0 (q := 20) hc dX9_takesAll_19 rfl ?_
          refine tt_getI (q := 23) hc fl_X9_269 (by first | assumption | exact ⟨by decide, _, rfl, _, rfl⟩) dX9_takesAll_20 rfl ?_
          rw [e20]
          refine tt_al0 (q := 24) hc dX9_takesAll_23 rfl ?_
          refine tt_getI (q := 27) hc fl_X9_243 (by first | assumption | exact ⟨by decide, _, rfl, _, rfl⟩) dX9_takesAll_24 rfl ?_
          rw [e19]
          first | (with_reducible refine chk2 ?_; refine tt_icgeN (t := 74) (q := 30) hc (by omega) (by omega) dX9_takesAll_27 rfl rfl (fun c_27 => ?_) (fun c_27 => ?_)) | refine tt_icge (t := 74) (q := 30) hc dX9_takesAll_27 rfl rfl (fun c_27 => ?_) (fun c_27 => ?_)
          · omega
          · refine tt_al0 (q := 31) hc dX9_takesAll_30 rfl ?_
            refine tt_getR (q := 34) hc fl_X9_63 (by first | assumption | exact ⟨by decide, _, rfl, rfl⟩) dX9_takesAll_31 rfl ?_
            refine tt_al0 (q := 35) hc dX9_takesAll_34 rfl ?_
            refine tt_getI (q := 38) hc fl_X9_269 (by first | assumption | exact ⟨by decide, _, rfl, _, rfl⟩) dX9_takesAll_35 rfl ?_
            rw [e20]
            refine tt_bald (q := 39) hc (by first | assumption | exact ⟨by decide, rfl, by decide⟩) (by omega) dX9_takesAll_38 rfl ?_
            rw [hx.1]
            refine tt_bipush (v := nI 32) (q := 41) hc (by decide) dX9_takesAll_39 rfl ?_
            first | (with_reducible refine chk2 ?_; refine tt_icneN (t := 53) (q := 44) hc (by omega) (by omega) dX9_takesAll_41 rfl rfl (fun c_41 => ?_) (fun c_41 => ?_)) | refine tt_icne (t := 53) (q := 44) hc dX9_takesAll_41 rfl rfl (fun c_41 => ?_) (fun c_41 => ?_)
            · refine tt_iconst (v := nI 0) (q := 54) hc rfl dX9_takesAll_53 rfl ?_
              refine tt_retz hX rfl (by first | decide | exact bI_01 _) dX9_takesAll_54 ?_
              exact hF e rfl ν hf e20
            · refine tt_al0 (q := 45) hc dX9_takesAll_44 rfl ?_
              refine tt_getI (q := 48) hc fl_X9_298 (by first | assumption | exact ⟨by decide, _, rfl, _, rfl⟩) dX9_takesAll_45 rfl ?_
              rw [e21]
              refine tt_bipush (v := nI 12) (q := 50) hc (by decide) dX9_takesAll_48 rfl ?_
              first | (with_reducible refine chk2 ?_; refine tt_icneN (t := 55) (q := 53) hc (by omega) (by omega) dX9_takesAll_50 rfl rfl (fun c_50 => ?_) (fun c_50 => ?_)) | refine tt_icne (t := 55) (q := 53) hc dX9_takesAll_50 rfl rfl (fun c_50 => ?_) (fun c_50 => ?_)
              · omega
              · refine tt_iconst (v := nI 0) (q := 54) hc rfl dX9_takesAll_53 rfl ?_
                refine tt_retz hX rfl (by first | decide | exact bI_01 _) dX9_takesAll_54 ?_
                exact hF e rfl ν hf e20
        · rw [if_neg c2] at hR
          subst hR
          refine tt_al0 (q := 20) hc dX9_takesAll_19 rfl ?_
          refine tt_getI (q := 23) hc fl_X9_269 (by first | assumption | exact ⟨by decide, _, rfl, _, rfl⟩) dX9_takesAll_20 rfl ?_
          rw [e20]
          refine tt_al0 (q := 24) hc dX9_takesAll_23 rfl ?_
          refine tt_getI (q := 27) hc fl_X9_243 (by first | assumption | exact ⟨by decide, _, rfl, _, rfl⟩) dX9_takesAll_24 rfl ?_
          rw [e19]
          first | (with_reducible refine chk2 ?_; refine tt_icgeN (t := 74) (q := 30) hc (by omega) (by omega) dX9_takesAll_27 rfl rfl (fun c_27 => ?_) (fun c_27 => ?_)) | refine tt_icge (t := 74) (q := 30) hc dX9_takesAll_27 rfl rfl (fun c_27 => ?_) (fun c_27 => ?_)
          · omega
          · refine tt_al0 (q := 31) hc dX9_takesAll_30 rfl ?_
            refine tt_getR (q := 34) hc fl_X9_63 (by first | assumption | exact ⟨by decide, _, rfl, rfl⟩) dX9_takesAll_31 rfl ?_
            refine tt_al0 (q := 35) hc dX9_takesAll_34 rfl ?_
            refine tt_getI (q := 38) hc fl_X9_269 (by first | assumption | exact ⟨by decide, _, rfl, _, rfl⟩) dX9_takesAll_35 rfl ?_
            rw [e20]
            refine tt_bald (q := 39) hc (by first | assumption | exact ⟨by decide, rfl, by decide⟩) (by omega) dX9_takesAll_38 rfl ?_
            rw [hx.1]
            refine tt_bipush (v := nI 32) (q := 41) hc (by decide) dX9_takesAll_39 rfl ?_
            first | (with_reducible refine chk2 ?_; refine tt_icneN (t := 53) (q := 44) hc (by omega) (by omega) dX9_takesAll_41 rfl rfl (fun c_41 => ?_) (fun c_41 => ?_)) | refine tt_icne (t := 53) (q := 44) hc dX9_takesAll_41 rfl rfl (fun c_41 => ?_) (fun c_41 => ?_)
            · refine tt_iconst (v := nI 0) (q := 54) hc rfl dX9_takesAll_53 rfl ?_
              refine tt_retz hX rfl (by first | decide | exact bI_01 _) dX9_takesAll_54 ?_
              exact hF e rfl ν hf e20
            · exact absurd c_41 c2
    | succ m ih =>
      intro e dn ν hm he hf hXν hW e20 hR
      have e19 := hXν.2.1
      have e21 := hW.1
      unfold splE at hR
      by_cases c1 : tx.length ≤ e
      · rw [if_pos c1] at hR
        subst hR
        refine tt_al0 (q := 20) hc dX9_takesAll_19 rfl ?_
        refine tt_getI (q := 23) hc fl_X9_269 (by first | assumption | exact ⟨by decide, _, rfl, _, rfl⟩) dX9_takesAll_20 rfl ?_
        rw [e20]
        refine tt_al0 (q := 24) hc dX9_takesAll_23 rfl ?_
        refine tt_getI (q := 27) hc fl_X9_243 (by first | assumption | exact ⟨by decide, _, rfl, _, rfl⟩) dX9_takesAll_24 rfl ?_
        rw [e19]
        first | (with_reducible refine chk2 ?_; refine tt_icgeN (t := 74) (q := 30) hc (by omega) (by omega) dX9_takesAll_27 rfl rfl (fun c_27 => ?_) (fun c_27 => ?_)) | refine tt_icge (t := 74) (q := 30) hc dX9_takesAll_27 rfl rfl (fun c_27 => ?_) (fun c_27 => ?_)
        · refine tt_iconst (v := nI 1) (q := 75) hc rfl dX9_takesAll_74 rfl ?_
          refine tt_retz hX rfl (by first | decide | exact bI_01 _) dX9_takesAll_75 ?_
          refine hT rfl ν hf ?_
          rw [List.append_nil]
          exact hW
        · omega
      · rw [if_neg c1] at hR
        have hx := hXν.at (i := e) (by omega)
        by_cases c2 : tx.getD e 0 = 32
        · rw [if_pos c2] at hR
          have hp1 : e + 1 ≤ tx.length := by omega
          have b1 := bhN_le tx 97 122 (tx.length - (e + 1)) (e + 1)
          have b2 := bhN_le tx 48 57 (tx.length - bh tx 97 122 (e + 1)) (bh tx 97 122 (e + 1))
          rw [← bh] at b1
          rw [← bh] at b2
          have hf1 : mg [39, 25] [20, 21] ν (mset ν 24 (upd (ν 24) 20 (nI (e + 1)))) := mg.own (by decide)
          refine tt_al0 (q := 20) hc dX9_takesAll_19 rfl ?_
          refine tt_getI (q := 23) hc fl_X9_269 (by first | assumption | exact ⟨by decide, _, rfl, _, rfl⟩) dX9_takesAll_20 rfl ?_
          rw [e20]
          refine tt_al0 (q := 24) hc dX9_takesAll_23 rfl ?_
          refine tt_getI (q := 27) hc fl_X9_243 (by first | assumption | exact ⟨by decide, _, rfl, _, rfl⟩) dX9_takesAll_24 rfl ?_
          rw [e19]
          first | (with_reducible refine chk2 ?_; refine tt_icgeN (t := 74) (q := 30) hc (by omega) (by omega) dX9_takesAll_27 rfl rfl (fun c_27 => ?_) (fun c_27 => ?_)) | refine tt_icge (t := 74) (q := 30) hc dX9_takesAll_27 rfl rfl (fun c_27 => ?_) (fun c_27 => ?_)
          · omega
          · refine tt_al0 (q := 31) hc dX9_takesAll_30 rfl ?_
            refine tt_getR (q := 34) hc fl_X9_63 (by first | assumption | exact ⟨by decide, _, rfl, rfl⟩) dX9_takesAll_31 rfl ?_
            refine tt_al0 (q := 35) hc dX9_takesAll_34 rfl ?_
            refine tt_getI (q := 38) hc fl_X9_269 (by first | assumption | exact ⟨by decide, _, rfl, _, rfl⟩) dX9_takesAll_35 rfl ?_
            rw [e20]
            refine tt_bald (q := 39) hc (by first | assumption | exact ⟨by decide, rfl, by decide⟩) (by omega) dX9_takesAll_38 rfl ?_
            rw [hx.1]
            refine tt_bipush (v := nI 32) (q := 41) hc (by decide) dX9_takesAll_39 rfl ?_
            first | (with_reducible refine chk2 ?_; refine tt_icneN (t := 53) (q := 44) hc (by omega) (by omega) dX9_takesAll_41 rfl rfl (fun c_41 => ?_) (fun c_41 => ?_)) | refine tt_icne (t := 53) (q := 44) hc dX9_takesAll_41 rfl rfl (fun c_41 => ?_) (fun c_41 => ?_)
            · exact absurd c2 c_41
            · refine tt_al0 (q := 45) hc dX9_takesAll_44 rfl ?_
              refine tt_getI (q := 48) hc fl_X9_298 (by first | assumption | exact ⟨by decide, _, rfl, _, rfl⟩) dX9_takesAll_45 rfl ?_
              rw [e21]
              refine tt_bipush (v := nI 12) (q := 50) hc (by decide) dX9_takesAll_48 rfl ?_
              first | (with_reducible refine chk2 ?_; refine tt_icneN (t := 55) (q := 53) hc (by omega) (by omega) dX9_takesAll_50 rfl rfl (fun c_50 => ?_) (fun c_50 => ?_)) | refine tt_icne (t := 55) (q := 53) hc dX9_takesAll_50 rfl rfl (fun c_50 => ?_) (fun c_50 => ?_)
              · refine tt_al0 (q := 56) hc dX9_takesAll_55 rfl ?_
                refine tt_dup (q := 57) hc rfl dX9_takesAll_56 rfl ?_
                refine tt_getI (q := 60) hc fl_X9_269 (by first | assumption | exact ⟨by decide, _, rfl, _, rfl⟩) dX9_takesAll_57 rfl ?_
                rw [e20]
                refine tt_iconst (v := nI 1) (q := 61) hc rfl dX9_takesAll_60 rfl ?_
                first | (with_reducible refine chk2 ?_; refine tt_iaddN (q := 62) hc dX9_takesAll_61 rfl ?_) | refine tt_iadd (q := 62) hc dX9_takesAll_61 rfl ?_
                refine tt_putI (q := 65) hc fp_X9_269 (by first | assumption | exact ⟨by decide, _, rfl, _, rfl⟩) dX9_takesAll_62 rfl ?_
                refine tt_al0 (q := 66) hc dX9_takesAll_65 rfl ?_
                refine tt_cV0 (q := 69) (d' := 5) (ci := 9) hc (by first | decide | omega) kmX9_takesWord ml_X9_307 (by first | assumption | exact ⟨by decide, _, rfl⟩) rfl (Nat.le_of_ble_eq_true rfl) dX9_takesAll_66 rfl ?_
                have HX := mx_mg2 hXν hf1
                have HA : (mset ν 24 (upd (ν 24) 20 (nI (e + 1)))) 24 20 = nI (e + 1) := by rw [mset_eq, pk_us]
                have HW : WM (mset ν 24 (upd (ν 24) 20 (nI (e + 1)))) tx dn := ⟨by rw [mset_eq, pk_un (by decide)]; exact hW.1, fun i q hq => by rw [mset_ne (by decide), mset_ne (by decide)]; exact hW.2 i q hq⟩
                generalize mset ν 24 (upd (ν 24) 20 (nI (e + 1))) = ν1 at hf1 HX HA HW ⊢
                refine c_X9_takesWord HX HA hp1 HW (by omega) ?_ ?_
                · intro hz
                  rw [spl_F hz] at hR
                  subst hR
                  refine tt_ifneN (q := 72) (t := 19) hc (by decide) dX9_takesAll_69 rfl rfl (fun z => absurd z (by decide)) (fun _ => ?_)
                  refine tt_iconst (v := nI 0) (q := 73) hc rfl dX9_takesAll_72 rfl ?_
                  refine tt_retz hX rfl (by decide) dX9_takesAll_73 ?_
                  exact hF (e + 1) rfl _ (hf.tr hf1) HA
                intro w hw hg ν2 hf2 hW2 e2
                rw [spl_E hw hg] at hR
                dsimp only at hR
                dsimp only [Option.toList, List.nil_append, List.cons_append]
                first | (with_reducible refine chkb ?_; refine tt_ifneB (t := 19) (q := 72) hc dX9_takesAll_69 rfl rfl (fun c_69 => ?_) (fun c_69 => ?_)) | (with_reducible refine chk1 ?_; refine tt_ifneN (t := 19) (q := 72) hc (by omega) dX9_takesAll_69 rfl rfl (fun c_69 => ?_) (fun c_69 => ?_)) | refine tt_ifne (t := 19) (q := 72) hc dX9_takesAll_69 rfl rfl (fun c_69 => ?_) (fun c_69 => ?_)
                · refine ih _ (dn ++ [(w, bh tx 97 122 (e + 1), bh tx 48 57 (bh tx 97 122 (e + 1)))]) ν2 (by rw [snoc_len]; omega) (by omega) ((hf.tr hf1).tr hf2) (mx_mg2 HX hf2) hW2 e2 ?_
                  rw [snoc_app]
                  exact hR
                · omega
              · omega
        · rw [if_neg c2] at hR
          subst hR
          refine tt_al0 (q := 20) hc dX9_takesAll_19 rfl ?_
          refine tt_getI (q := 23) hc fl_X9_269 (by first | assumption | exact ⟨by decide, _, rfl, _, rfl⟩) dX9_takesAll_20 rfl ?_
          rw [e20]
          refine tt_al0 (q := 24) hc dX9_takesAll_23 rfl ?_
          refine tt_getI (q := 27) hc fl_X9_243 (by first | assumption | exact ⟨by decide, _, rfl, _, rfl⟩) dX9_takesAll_24 rfl ?_
          rw [e19]
          first | (with_reducible refine chk2 ?_; refine tt_icgeN (t := 74) (q := 30) hc (by omega) (by omega) dX9_takesAll_27 rfl rfl (fun c_27 => ?_) (fun c_27 => ?_)) | refine tt_icge (t := 74) (q := 30) hc dX9_takesAll_27 rfl rfl (fun c_27 => ?_) (fun c_27 => ?_)
          · omega
          · refine tt_al0 (q := 31) hc dX9_takesAll_30 rfl ?_
            refine tt_getR (q := 34) hc fl_X9_63 (by first | assumption | exact ⟨by decide, _, rfl, rfl⟩) dX9_takesAll_31 rfl ?_
            refine tt_al0 (q := 35) hc dX9_takesAll_34 rfl ?_
            refine tt_getI (q := 38) hc fl_X9_269 (by first | assumption | exact ⟨by decide, _, rfl, _, rfl⟩) dX9_takesAll_35 rfl ?_
            rw [e20]
            refine tt_bald (q := 39) hc (by first | assumption | exact ⟨by decide, rfl, by decide⟩) (by omega) dX9_takesAll_38 rfl ?_
            rw [hx.1]
            refine tt_bipush (v := nI 32) (q := 41) hc (by decide) dX9_takesAll_39 rfl ?_
            first | (with_reducible refine chk2 ?_; refine tt_icneN (t := 53) (q := 44) hc (by omega) (by omega) dX9_takesAll_41 rfl rfl (fun c_41 => ?_) (fun c_41 => ?_)) | refine tt_icne (t := 53) (q := 44) hc dX9_takesAll_41 rfl rfl (fun c_41 => ?_) (fun c_41 => ?_)
            · refine tt_iconst (v := nI 0) (q := 54) hc rfl dX9_takesAll_53 rfl ?_
              refine tt_retz hX rfl (by first | decide | exact bI_01 _) dX9_takesAll_54 ?_
              exact hF e rfl ν hf e20
            · exact absurd c_41 c2
  have b1 := bhN_le tx 97 122 (tx.length - 0) 0
  have b2 := bhN_le tx 48 57 (tx.length - bh tx 97 122 0) (bh tx 97 122 0)
  rw [← bh] at b1
  rw [← bh] at b2
  have hf1 : mg [39, 25] [20, 21] μ (mset (mset μ 24 (upd (μ 24) 20 (nI 0))) 24 (upd (mset μ 24 (upd (μ 24) 20 (nI 0)) 24) 21 (nI 0))) := (mg.own (by decide)).tr (mg.own (by decide))
  refine tt_al0 (q := 1) hc dX9_takesAll_0 rfl ?_
  refine tt_iconst (v := nI 0) (q := 2) hc rfl dX9_takesAll_1 rfl ?_
  refine tt_putI (q := 5) hc fp_X9_269 (by first | assumption | exact ⟨by decide, _, rfl, _, rfl⟩) dX9_takesAll_2 rfl ?_
  refine tt_al0 (q := 6) hc dX9_takesAll_5 rfl ?_
  refine tt_iconst (v := nI 0) (q := 7) hc rfl dX9_takesAll_6 rfl ?_
  refine tt_putI (q := 10) hc fp_X9_298 (by first | assumption | exact ⟨by decide, _, rfl, _, rfl⟩) dX9_takesAll_7 rfl ?_
  refine tt_al0 (q := 11) hc dX9_takesAll_10 rfl ?_
  refine tt_cV0 (q := 14) (d' := 5) (ci := 9) hc (by first | decide | omega) kmX9_takesWord ml_X9_307 (by first | assumption | exact ⟨by decide, _, rfl⟩) rfl (Nat.le_of_ble_eq_true rfl) dX9_takesAll_11 rfl ?_
  have HX := mx_mg2 hX6 hf1
  have HA : (mset (mset μ 24 (upd (μ 24) 20 (nI 0))) 24 (upd (mset μ 24 (upd (μ 24) 20 (nI 0)) 24) 21 (nI 0))) 24 20 = nI 0 := by rw [mset_eq, pk_un (by decide), mset_eq, pk_us]
  have HW : WM (mset (mset μ 24 (upd (μ 24) 20 (nI 0))) 24 (upd (mset μ 24 (upd (μ 24) 20 (nI 0)) 24) 21 (nI 0))) tx [] := ⟨by rw [mset_eq, pk_us]; rfl, fun i q hq => by simp at hq⟩
  generalize mset (mset μ 24 (upd (μ 24) 20 (nI 0))) 24 (upd (mset μ 24 (upd (μ 24) 20 (nI 0)) 24) 21 (nI 0)) = ν1 at hf1 HX HA HW ⊢
  refine c_X9_takesWord HX HA (Nat.zero_le _) HW (by decide) ?_ ?_
  · intro hz
    rw [spl_F hz] at hR
    subst hR
    refine tt_ifneN (q := 17) (t := 19) hc (by decide) dX9_takesAll_14 rfl rfl (fun z => absurd z (by decide)) (fun _ => ?_)
    refine tt_iconst (v := nI 0) (q := 18) hc rfl dX9_takesAll_17 rfl ?_
    refine tt_retz hX rfl (by decide) dX9_takesAll_18 ?_
    exact hF 0 rfl _ hf1 HA
  intro w hw hg ν2 hf2 hW2 e2
  rw [spl_E hw hg] at hR
  dsimp only [Option.toList, List.nil_append, List.cons_append]
  first | (with_reducible refine chkb ?_; refine tt_ifneB (t := 19) (q := 17) hc dX9_takesAll_14 rfl rfl (fun c_14 => ?_) (fun c_14 => ?_)) | (with_reducible refine chk1 ?_; refine tt_ifneN (t := 19) (q := 17) hc (by omega) dX9_takesAll_14 rfl rfl (fun c_14 => ?_) (fun c_14 => ?_)) | refine tt_ifne (t := 19) (q := 17) hc dX9_takesAll_14 rfl rfl (fun c_14 => ?_) (fun c_14 => ?_)
  · exact L 11 _ [(w, bh tx 97 122 0, bh tx 48 57 (bh tx 97 122 0))] ν2 rfl (by omega) (hf1.tr hf2) (mx_mg2 HX hf2) hW2 e2 hR
  · omega
theorem body_0 {S : ST} (hK : S.1 = 3 ∨ S.1 = 4) : sp_body (nI 0) S = (-1, S) ∧ sp_body (-1) S = (-1, S) := by
  obtain ⟨K, B, hs, ks, im, ls, tx, pp⟩ := S
  dsimp only at hK
  constructor
  · dsimp only [sp_body]
    rw [if_neg (fun z => by
      have h2 := z.2
      rw [nI_clamp (by decide)] at h2
      have : pop 0 = 0 := by decide
      omega)]
  · dsimp only [sp_body]
    rw [if_neg (fun z => absurd z.1 (by decide))]
theorem body_ps {S : ST} (hK : S.1 = 3 ∨ S.1 = 4) (o : Option Nat) : sp_body (nI (psM o)) S = sp_body (m1I o) S := by
  cases o with
  | some s => rfl
  | none => rw [show psM none = 0 from rfl, show m1I none = -1 from rfl, (body_0 hK).1, (body_0 hK).2]
set_option maxHeartbeats 4000000 in
theorem c_X9_isDone {l : Launch} {tx : List Nat} {q : Nat × Nat × Nat} {k : Nat} {S : ST} {μ : Mem} {Q : Option Value → Mem → Prop} (hM : MR μ S) (hk : k < 12) (hq : q.1 < 12) (e39 : μ 39 k = nI (sw q.1)) (e25 : μ 25 k = numV tx q) (hQ : ∀ μ', frm mL μ μ' → wdf μ μ' → MR μ' (sp_obey tx q S).2 → Q (some (.int (bI (decide (0 ≤ (sp_obey tx q S).1))))) μ') : CC l 5 mX9_isDone [.ref 24, .int (nI k)] μ Q := by
  refine CC.of (M := mX9_isDone) (by decide +kernel) rfl (fun v h => by simp at h; rcases h with rfl | rfl <;> rfl) (Nat.le_of_ble_eq_true rfl) (fun X hX => ?_)
  have hc := hX.cx
  have a39 := HA39
  have a25 := HA25
  have hK : S.1 = 3 ∨ S.1 = 4 := by
    obtain ⟨K, B, hs, ks, im, ls, tx, pp⟩ := S
    exact hM.1.1.1
  have hbp := body_ps hK
  obtain ⟨w, e1, e2⟩ := q
  unfold numV at e25
  unfold sp_obey at hQ
  dsimp only at hq e39 e25 hQ
  have SM : w ≤ 5 → TT X 13 [.ref 24, .int (nI k), .int (nI w)] [] μ := by
    intro h5
    rw [if_pos h5] at hQ
    refine tt_al0 (q := 14) hc dX9_isDone_13 rfl ?_
    refine tt_il2 (q := 15) hc dX9_isDone_14 rfl ?_
    refine tt_cV1 (q := 18) (d' := 4) (ci := 9) hc (by first | decide | omega) kmX9_make ml_X9_310 (by first | assumption | exact ⟨by decide, _, rfl⟩) rfl (Nat.le_of_ble_eq_true rfl) dX9_isDone_15 rfl ?_
    refine c_X9_makeW hM (fun ν hf hw hR => ?_)
    have h := hQ ν hf hw hR
    dsimp only [Option.toList, List.nil_append, List.cons_append]
    refine tt_iflt (t := 25) (q := 21) hc dX9_isDone_18 rfl rfl (fun c_18 => ?_) (fun c_18 => ?_)
    · refine tt_iconst (v := nI 0) (q := 26) hc rfl dX9_isDone_25 rfl ?_
      refine tt_retz hX rfl (by first | decide | exact bI_01 _) dX9_isDone_26 ?_
      first
      | exact qb0 h (decide_eq_false (Int32.not_le.mpr c_18))
      | exact qb1 h (decide_eq_true (Int32.not_lt.mp c_18))
    · refine tt_iconst (v := nI 1) (q := 22) hc rfl dX9_isDone_21 rfl ?_
      refine tt_goto (t := 26) hc dX9_isDone_22 rfl ?_
      refine tt_retz hX rfl (by first | decide | exact bI_01 _) dX9_isDone_26 ?_
      first
      | exact qb0 h (decide_eq_false (Int32.not_le.mpr c_18))
      | exact qb1 h (decide_eq_true (Int32.not_lt.mp c_18))
  have SW : ¬ w ≤ 5 → TT X 28 [.ref 24, .int (nI k), .int (nI (sw w))] [.int (nI (sw w))] μ := by
    intro h5
    rw [if_neg h5] at hQ
    rcases (show w = 6 ∨ w = 7 ∨ w = 8 ∨ w = 9 ∨ w = 10 ∨ w = 11 by omega) with rfl | rfl | rfl | rfl | rfl | rfl
    · refine tt_tswI (t := 64) hc dX9_isDone_28 (by decide) (by decide) rfl rfl ?_
      refine tt_al0 (q := 65) hc dX9_isDone_64 rfl ?_
      refine tt_iconst (v := nI 3) (q := 66) hc rfl dX9_isDone_65 rfl ?_
      refine tt_cV1 (q := 69) (d' := 1) (ci := 9) hc (by first | decide | omega) kmX9_bodies ml_X9_313 (by first | assumption | exact ⟨by decide, _, rfl⟩) rfl (Nat.le_of_ble_eq_true rfl) dX9_isDone_66 rfl ?_
      refine c_X9_bodiesW hM (fun ν hf hw hR => ?_)
      have h := hQ ν hf hw hR
      dsimp only [Option.toList, List.nil_append, List.cons_append]
      refine tt_iflt (t := 76) (q := 72) hc dX9_isDone_69 rfl rfl (fun c_69 => ?_) (fun c_69 => ?_)
      · refine tt_iconst (v := nI 0) (q := 77) hc rfl dX9_isDone_76 rfl ?_
        refine tt_retz hX rfl (by first | decide | exact bI_01 _) dX9_isDone_77 ?_
        first
        | exact qb0 h (decide_eq_false (Int32.not_le.mpr c_69))
        | exact qb1 h (decide_eq_true (Int32.not_lt.mp c_69))
      · refine tt_iconst (v := nI 1) (q := 73) hc rfl dX9_isDone_72 rfl ?_
        refine tt_goto (t := 77) hc dX9_isDone_73 rfl ?_
        refine tt_retz hX rfl (by first | decide | exact bI_01 _) dX9_isDone_77 ?_
        first
        | exact qb0 h (decide_eq_false (Int32.not_le.mpr c_69))
        | exact qb1 h (decide_eq_true (Int32.not_lt.mp c_69))
    · refine tt_tswI (t := 78) hc dX9_isDone_28 (by decide) (by decide) rfl rfl ?_
      refine tt_al0 (q := 79) hc dX9_isDone_78 rfl ?_
      refine tt_iconst (v := nI 4) (q := 80) hc rfl dX9_isDone_79 rfl ?_
      refine tt_cV1 (q := 83) (d' := 1) (ci := 9) hc (by first | decide | omega) kmX9_bodies ml_X9_313 (by first | assumption | exact ⟨by decide, _, rfl⟩) rfl (Nat.le_of_ble_eq_true rfl) dX9_isDone_80 rfl ?_
      refine c_X9_bodiesW hM (fun ν hf hw hR => ?_)
      have h := hQ ν hf hw hR
      dsimp only [Option.toList, List.nil_append, List.cons_append]
      refine tt_iflt (t := 90) (q := 86) hc dX9_isDone_83 rfl rfl (fun c_83 => ?_) (fun c_83 => ?_)
      · refine tt_iconst (v := nI 0) (q := 91) hc rfl dX9_isDone_90 rfl ?_
        refine tt_retz hX rfl (by first | decide | exact bI_01 _) dX9_isDone_91 ?_
        first
        | exact qb0 h (decide_eq_false (Int32.not_le.mpr c_83))
        | exact qb1 h (decide_eq_true (Int32.not_lt.mp c_83))
      · refine tt_iconst (v := nI 1) (q := 87) hc rfl dX9_isDone_86 rfl ?_
        refine tt_goto (t := 91) hc dX9_isDone_87 rfl ?_
        refine tt_retz hX rfl (by first | decide | exact bI_01 _) dX9_isDone_91 ?_
        first
        | exact qb0 h (decide_eq_false (Int32.not_le.mpr c_83))
        | exact qb1 h (decide_eq_true (Int32.not_lt.mp c_83))
    · refine tt_tswI (t := 105) hc dX9_isDone_28 (by decide) (by decide) rfl rfl ?_
      rw [if_neg (by decide)] at e25
      refine tt_al0 (q := 106) hc dX9_isDone_105 rfl ?_
      refine tt_al0 (q := 107) hc dX9_isDone_106 rfl ?_
      refine tt_getR (q := 110) hc fl_X9_70 (by first | assumption | exact ⟨by decide, _, rfl, rfl⟩) dX9_isDone_107 rfl ?_
      refine tt_il1 (q := 111) hc dX9_isDone_110 rfl ?_
      refine tt_iald (q := 112) hc (by first | assumption | exact ⟨by decide, rfl, by decide⟩) (by omega) dX9_isDone_111 rfl ?_
      rw [e25]
      refine tt_cV1 (q := 115) (d' := 4) (ci := 9) hc (by first | decide | omega) kmX9_flip ml_X9_318 (by first | assumption | exact ⟨by decide, _, rfl⟩) rfl (Nat.le_of_ble_eq_true rfl) dX9_isDone_112 rfl ?_
      refine c_X9_flipW hM (fun ν hf hw hR => ?_)
      have h := hQ ν hf hw hR
      dsimp only [Option.toList, List.nil_append, List.cons_append]
      refine tt_iflt (t := 122) (q := 118) hc dX9_isDone_115 rfl rfl (fun c_115 => ?_) (fun c_115 => ?_)
      · refine tt_iconst (v := nI 0) (q := 123) hc rfl dX9_isDone_122 rfl ?_
        refine tt_retz hX rfl (by first | decide | exact bI_01 _) dX9_isDone_123 ?_
        first
        | exact qb0 h (decide_eq_false (Int32.not_le.mpr c_115))
        | exact qb1 h (decide_eq_true (Int32.not_lt.mp c_115))
      · refine tt_iconst (v := nI 1) (q := 119) hc rfl dX9_isDone_118 rfl ?_
        refine tt_goto (t := 123) hc dX9_isDone_119 rfl ?_
        refine tt_retz hX rfl (by first | decide | exact bI_01 _) dX9_isDone_123 ?_
        first
        | exact qb0 h (decide_eq_false (Int32.not_le.mpr c_115))
        | exact qb1 h (decide_eq_true (Int32.not_lt.mp c_115))
    · refine tt_tswI (t := 92) hc dX9_isDone_28 (by decide) (by decide) rfl rfl ?_
      refine tt_al0 (q := 93) hc dX9_isDone_92 rfl ?_
      refine tt_cV0 (q := 96) (d' := 2) (ci := 9) hc (by first | decide | omega) kmX9_keep ml_X9_316 (by first | assumption | exact ⟨by decide, _, rfl⟩) rfl (Nat.le_of_ble_eq_true rfl) dX9_isDone_93 rfl ?_
      refine c_X9_keepW hM (fun ν hf hw hR => ?_)
      have h := hQ ν hf hw hR
      dsimp only [Option.toList, List.nil_append, List.cons_append]
      refine tt_iflt (t := 103) (q := 99) hc dX9_isDone_96 rfl rfl (fun c_96 => ?_) (fun c_96 => ?_)
      · refine tt_iconst (v := nI 0) (q := 104) hc rfl dX9_isDone_103 rfl ?_
        refine tt_retz hX rfl (by first | decide | exact bI_01 _) dX9_isDone_104 ?_
        first
        | exact qb0 h (decide_eq_false (Int32.not_le.mpr c_96))
        | exact qb1 h (decide_eq_true (Int32.not_lt.mp c_96))
      · refine tt_iconst (v := nI 1) (q := 100) hc rfl dX9_isDone_99 rfl ?_
        refine tt_goto (t := 104) hc dX9_isDone_100 rfl ?_
        refine tt_retz hX rfl (by first | decide | exact bI_01 _) dX9_isDone_104 ?_
        first
        | exact qb0 h (decide_eq_false (Int32.not_le.mpr c_96))
        | exact qb1 h (decide_eq_true (Int32.not_lt.mp c_96))
    · refine tt_tswI (t := 124) hc dX9_isDone_28 (by decide) (by decide) rfl rfl ?_
      rw [if_neg (by decide)] at e25
      refine tt_al0 (q := 125) hc dX9_isDone_124 rfl ?_
      refine tt_al0 (q := 126) hc dX9_isDone_125 rfl ?_
      refine tt_getR (q := 129) hc fl_X9_70 (by first | assumption | exact ⟨by decide, _, rfl, rfl⟩) dX9_isDone_126 rfl ?_
      refine tt_il1 (q := 130) hc dX9_isDone_129 rfl ?_
      refine tt_iald (q := 131) hc (by first | assumption | exact ⟨by decide, rfl, by decide⟩) (by omega) dX9_isDone_130 rfl ?_
      rw [e25]
      refine tt_cV1 (q := 134) (d' := 2) (ci := 9) hc (by first | decide | omega) kmX9_take ml_X9_320 (by first | assumption | exact ⟨by decide, _, rfl⟩) rfl (Nat.le_of_ble_eq_true rfl) dX9_isDone_131 rfl ?_
      refine c_X9_takeW hM (fun ν hf hw hR => ?_)
      have h := hQ ν hf hw hR
      dsimp only [Option.toList, List.nil_append, List.cons_append]
      refine tt_iflt (t := 141) (q := 137) hc dX9_isDone_134 rfl rfl (fun c_134 => ?_) (fun c_134 => ?_)
      · refine tt_iconst (v := nI 0) (q := 142) hc rfl dX9_isDone_141 rfl ?_
        refine tt_retz hX rfl (by first | decide | exact bI_01 _) dX9_isDone_142 ?_
        first
        | exact qb0 h (decide_eq_false (Int32.not_le.mpr c_134))
        | exact qb1 h (decide_eq_true (Int32.not_lt.mp c_134))
      · refine tt_iconst (v := nI 1) (q := 138) hc rfl dX9_isDone_137 rfl ?_
        refine tt_goto (t := 142) hc dX9_isDone_138 rfl ?_
        refine tt_retz hX rfl (by first | decide | exact bI_01 _) dX9_isDone_142 ?_
        first
        | exact qb0 h (decide_eq_false (Int32.not_le.mpr c_134))
        | exact qb1 h (decide_eq_true (Int32.not_lt.mp c_134))
    · refine tt_tswO (t := 143) hc dX9_isDone_28 (by decide) rfl ?_
      rw [if_pos rfl] at e25
      refine tt_al0 (q := 144) hc dX9_isDone_143 rfl ?_
      refine tt_al0 (q := 145) hc dX9_isDone_144 rfl ?_
      refine tt_getR (q := 148) hc fl_X9_70 (by first | assumption | exact ⟨by decide, _, rfl, rfl⟩) dX9_isDone_145 rfl ?_
      refine tt_il1 (q := 149) hc dX9_isDone_148 rfl ?_
      refine tt_iald (q := 150) hc (by first | assumption | exact ⟨by decide, rfl, by decide⟩) (by omega) dX9_isDone_149 rfl ?_
      rw [e25]
      refine tt_cV1 (q := 153) (d' := 3) (ci := 9) hc (by first | decide | omega) kmX9_body ml_X9_322 (by first | assumption | exact ⟨by decide, _, rfl⟩) rfl (Nat.le_of_ble_eq_true rfl) dX9_isDone_150 rfl ?_
      refine c_X9_bodyW hM (fun ν hf hw hR => ?_)
      rw [hbp] at hR ⊢
      have h := hQ ν hf hw hR
      dsimp only [Option.toList, List.nil_append, List.cons_append]
      refine tt_iflt (t := 160) (q := 156) hc dX9_isDone_153 rfl rfl (fun c_153 => ?_) (fun c_153 => ?_)
      · refine tt_iconst (v := nI 0) (q := 161) hc rfl dX9_isDone_160 rfl ?_
        refine tt_retz hX rfl (by first | decide | exact bI_01 _) dX9_isDone_161 ?_
        first
        | exact qb0 h (decide_eq_false (Int32.not_le.mpr c_153))
        | exact qb1 h (decide_eq_true (Int32.not_lt.mp c_153))
      · refine tt_iconst (v := nI 1) (q := 157) hc rfl dX9_isDone_156 rfl ?_
        refine tt_goto (t := 161) hc dX9_isDone_157 rfl ?_
        refine tt_retz hX rfl (by first | decide | exact bI_01 _) dX9_isDone_161 ?_
        first
        | exact qb0 h (decide_eq_false (Int32.not_le.mpr c_153))
        | exact qb1 h (decide_eq_true (Int32.not_lt.mp c_153))
  have hs6 : w ≤ 5 → sw w = w := fun h => by
    unfold sw
    rw [if_neg (by omega), if_neg (by omega)]
  have hs7 : ¬ w ≤ 5 → ¬ sw w < 6 := fun h => by
    unfold sw
    split
    · omega
    · split <;> omega
  have hswl := sw_lt hq
  refine tt_al0 (q := 1) hc dX9_isDone_0 rfl ?_
  refine tt_getR (q := 4) hc fl_X9_67 (by first | assumption | exact ⟨by decide, _, rfl, rfl⟩) dX9_isDone_1 rfl ?_
  refine tt_il1 (q := 5) hc dX9_isDone_4 rfl ?_
  refine tt_iald (q := 6) hc (by first | assumption | exact ⟨by decide, rfl, by decide⟩) (by omega) dX9_isDone_5 rfl ?_
  rw [e39]
  refine tt_is2 (q := 7) hc dX9_isDone_6 rfl (by decide) ?_
  refine tt_il2 (q := 8) hc dX9_isDone_7 rfl ?_
  refine tt_bipush (v := nI 6) (q := 10) hc (by decide) dX9_isDone_8 rfl ?_
  first | (with_reducible refine chk2 ?_; refine tt_icgeN (t := 27) (q := 13) hc (by omega) (by omega) dX9_isDone_10 rfl rfl (fun c_10 => ?_) (fun c_10 => ?_)) | refine tt_icge (t := 27) (q := 13) hc dX9_isDone_10 rfl rfl (fun c_10 => ?_) (fun c_10 => ?_)
  · refine tt_il2 (q := 28) hc dX9_isDone_27 rfl ?_
    have z : ¬ w ≤ 5 := fun y => by
      have := hs6 y
      omega
    exact SW z
  · have z : w ≤ 5 := by
      rcases Nat.lt_or_ge 5 w with y | y
      · exact absurd c_10 (hs7 (by omega))
      · exact y
    rw [hs6 z]
    exact SM z
theorem oby_len {tx : List Nat} : ∀ (r : List (Nat × Nat × Nat)) (n : Nat) (S : ST), n ≤ (oby tx r n S).1
  | [], n, S => Nat.le_refl _
  | q :: r, n, S => by
    have := oby_len (tx := tx) r (if 0 ≤ (sp_obey tx q S).1 then n + 1 else n) (sp_obey tx q S).2
    rw [oby]
    refine Nat.le_trans ?_ this
    split <;> omega
set_option maxHeartbeats 4000000 in
theorem c_X9_read {l : Launch} {S : ST} {μ : Mem} {Q : Option Value → Mem → Prop} (hM : MR μ S) (hQ : ∀ μ', frm mL μ μ' → MR μ' (sp_read S).2 → Q (some (.int (sp_read S).1)) μ') : CC l 7 mX9_read [.ref 24] μ Q := by
  refine CC.of (M := mX9_read) (by decide +kernel) rfl (fun v h => by simp at h; subst h; rfl) (Nat.le_of_ble_eq_true rfl) (fun X hX => ?_)
  have hc := hX.cx
  obtain ⟨K, B, hs, ks, im, ls, tx, pp⟩ := S
  obtain ⟨⟨a0, a1, a2⟩, a3, a4, a5, a6, a7, a8⟩ := id hM
  have hsl := spl_len (tx := tx) 12 0
  have hok : ∀ q ∈ (spl tx 12 0).2, q.1 < 12 := fun q hq => (spl_ok 12 0 q (Nat.zero_le _) hq).1
  have hfl := fun f h => spl_flt (tx := tx) 12 0 f h (Nat.zero_le _)
  have hlen := a7.1
  dsimp only [sp_read] at hQ
  have MRt : ∀ ν, mg [39, 25] [19, 20, 21] μ ν → ν 24 19 = nI 0 → MR ν (K, B, hs, ks, im, ls, [], pp) := fun ν hf e19 => ⟨⟨a0, (hf.2 0 (by decide)).trans a1, a2.mg hf (by decide) (by decide)⟩, a3.mg hf (by decide) (by decide), a4.mg hf (by decide) (by decide), a5.mg hf (by decide) (by decide) (by decide) (by decide), a6.mg hf (by decide), ⟨Nat.zero_le _, e19, fun i b hb => by simp at hb, fun b hb => by simp at hb⟩, a8.mg hf (by decide) (by decide)⟩
  have L : ∀ (ws : List (Nat × Nat × Nat)), ws.length ≤ 12 → (∀ q ∈ ws, q.1 < 12) → ∀ (r : List (Nat × Nat × Nat)) (i n : Nat) (S : ST) (ν : Mem), ws.drop i = r → i ≤ ws.length → frm mL μ ν → MR ν S → WM ν tx ws → (∀ μ', frm mL μ μ' → MR μ' (fgt (oby tx r n S).2) → Q (some (.int (nI (oby tx r n S).1))) μ') → TT X 26 [.ref 24, .int (nI 1), .int (nI n), .int (nI i)] [] ν := by
    intro ws hwl hok r
    induction r with
    | nil =>
      intro i n S ν hr hi hf hS hW h
      have ho := drop_nil hr
      have e21 := hW.1
      obtain ⟨K1, B1, hs1, ks1, im1, ls1, tx1, pp1⟩ := S
      obtain ⟨⟨b0, b1, b2⟩, b3, b4, b5, b6, b7, b8⟩ := id hS
      have hf1 : mg [] [6] ν (mset ν 24 (upd (ν 24) 6 (nI 0))) := mg.own (by decide)
      refine tt_il3 (q := 27) hc dX9_read_26 rfl ?_
      refine tt_al0 (q := 28) hc dX9_read_27 rfl ?_
      refine tt_getI (q := 31) hc fl_X9_298 (by first | assumption | exact ⟨by decide, _, rfl, _, rfl⟩) dX9_read_28 rfl ?_
      rw [e21]
      first | (with_reducible refine chk2 ?_; refine tt_icgeN (t := 51) (q := 34) hc (by omega) (by omega) dX9_read_31 rfl rfl (fun c_31 => ?_) (fun c_31 => ?_)) | refine tt_icge (t := 51) (q := 34) hc dX9_read_31 rfl rfl (fun c_31 => ?_) (fun c_31 => ?_)
      · refine tt_al0 (q := 52) hc dX9_read_51 rfl ?_
        refine tt_iconst (v := nI 0) (q := 53) hc rfl dX9_read_52 rfl ?_
        refine tt_putI (q := 56) hc fp_X9_120 (by first | assumption | exact ⟨by decide, _, rfl, _, rfl⟩) dX9_read_53 rfl ?_
        refine tt_il2 (q := 57) hc dX9_read_56 rfl ?_
        refine tt_reti hX rfl dX9_read_57 ?_
        exact h _ (hf.tr (hf1.ml (by decide))) ⟨⟨b0, (hf1.2 0 (by decide)).trans b1, b2.mg hf1 (by decide) (by decide)⟩, ⟨Nat.zero_le _, by rw [mset_eq, pk_us]; rfl, fun i C hC => by simp at hC⟩, b4.mg hf1 (by decide) (by decide), b5.mg hf1 (by decide) (by decide) (by decide) (by decide), b6.mg hf1 (by decide), b7.mg hf1 (by decide) (by decide), b8.mg hf1 (by decide) (by decide)⟩
      · omega
    | cons q r ih =>
      intro i n S ν hr hi hf hS hW h
      obtain ⟨ho, hr2⟩ := drop_cons hr
      have lo := (List.getElem?_eq_some_iff.mp ho).1
      have e21 := hW.1
      have hq := hok q (List.mem_of_getElem? ho)
      obtain ⟨g1, g2⟩ := hW.2 i q ho
      rw [oby] at h
      refine tt_il3 (q := 27) hc dX9_read_26 rfl ?_
      refine tt_al0 (q := 28) hc dX9_read_27 rfl ?_
      refine tt_getI (q := 31) hc fl_X9_298 (by first | assumption | exact ⟨by decide, _, rfl, _, rfl⟩) dX9_read_28 rfl ?_
      rw [e21]
      first | (with_reducible refine chk2 ?_; refine tt_icgeN (t := 51) (q := 34) hc (by omega) (by omega) dX9_read_31 rfl rfl (fun c_31 => ?_) (fun c_31 => ?_)) | refine tt_icge (t := 51) (q := 34) hc dX9_read_31 rfl rfl (fun c_31 => ?_) (fun c_31 => ?_)
      · omega
      · refine tt_al0 (q := 35) hc dX9_read_34 rfl ?_
        refine tt_il3 (q := 36) hc dX9_read_35 rfl ?_
        refine tt_cV1 (q := 39) (d' := 5) (ci := 9) hc (by first | decide | omega) kmX9_isDone ml_X9_327 (by first | assumption | exact ⟨by decide, _, rfl⟩) rfl (Nat.le_of_ble_eq_true rfl) dX9_read_36 rfl ?_
        refine c_X9_isDone hS (by omega) hq g1 g2 (fun ν1 hf1 hw1 hS1 => ?_)
        have hW1 : WM ν1 tx ws := ⟨by rw [hw1.2.2]; exact hW.1, fun j q hj => by rw [hw1.1, hw1.2.1]; exact hW.2 j q hj⟩
        dsimp only [Option.toList, List.nil_append, List.cons_append]
        first | (with_reducible refine chkb ?_; refine tt_ifeqB (t := 45) (q := 42) hc dX9_read_39 rfl rfl (fun c_39 => ?_) (fun c_39 => ?_)) | (with_reducible refine chk1 ?_; refine tt_ifeqN (t := 45) (q := 42) hc (by omega) dX9_read_39 rfl rfl (fun c_39 => ?_) (fun c_39 => ?_)) | refine tt_ifeq (t := 45) (q := 42) hc dX9_read_39 rfl rfl (fun c_39 => ?_) (fun c_39 => ?_)
        · first | refine tt_inc3 (q := 48) hc dX9_read_45 rfl (by decide) (incN _) ?_ | refine tt_inc3 (q := 48) hc dX9_read_45 rfl (by decide) rfl ?_
          refine tt_goto (t := 26) hc dX9_read_48 rfl ?_
          first
          | (rw [if_pos (of_decide_eq_true c_39)] at h
             exact ih (i + 1) (n + 1) _ ν1 hr2 (by omega) (hf.tr hf1) hS1 hW1 h)
          | (rw [if_neg (of_decide_eq_false c_39)] at h
             exact ih (i + 1) n _ ν1 hr2 (by omega) (hf.tr hf1) hS1 hW1 h)
        · first | refine tt_inc2 (q := 45) hc dX9_read_42 rfl (by decide) (incN _) ?_ | refine tt_inc2 (q := 45) hc dX9_read_42 rfl (by decide) rfl ?_
          first | refine tt_inc3 (q := 48) hc dX9_read_45 rfl (by decide) (incN _) ?_ | refine tt_inc3 (q := 48) hc dX9_read_45 rfl (by decide) rfl ?_
          refine tt_goto (t := 26) hc dX9_read_48 rfl ?_
          first
          | (rw [if_pos (of_decide_eq_true c_39)] at h
             exact ih (i + 1) (n + 1) _ ν1 hr2 (by omega) (hf.tr hf1) hS1 hW1 h)
          | (rw [if_neg (of_decide_eq_false c_39)] at h
             exact ih (i + 1) n _ ν1 hr2 (by omega) (hf.tr hf1) hS1 hW1 h)
  have F : ∀ f, (spl tx 12 0).1 = some f → ∀ ν, mg [39, 25] [20, 21] μ ν → ν 24 20 = nI f → TT X 4 [.ref 24, .long 0, .long 0, .long 0] [.int (nI 0)] ν := by
    intro f hff ν hf e20
    rw [hff] at hQ
    dsimp only at hQ
    have hl := hfl f hff
    have hf2 : mg [39, 25] [19, 20, 21] μ (mset ν 24 (upd (ν 24) 19 (nI 0))) := (hf.mono (fun i hi => hi) (by decide)).tr (mg.own (by decide))
    refine tt_is1 (q := 5) hc dX9_read_4 rfl (by decide) ?_
    refine tt_al0 (q := 6) hc dX9_read_5 rfl ?_
    refine tt_iconst (v := nI 0) (q := 7) hc rfl dX9_read_6 rfl ?_
    refine tt_putI (q := 10) hc fp_X9_243 (by first | assumption | exact ⟨by decide, _, rfl, _, rfl⟩) dX9_read_7 rfl ?_
    refine tt_il1 (q := 11) hc dX9_read_10 rfl ?_
    first | (with_reducible refine chkb ?_; refine tt_ifneB (t := 22) (q := 14) hc dX9_read_11 rfl rfl (fun c_11 => ?_) (fun c_11 => ?_)) | (with_reducible refine chk1 ?_; refine tt_ifneN (t := 22) (q := 14) hc (by omega) dX9_read_11 rfl rfl (fun c_11 => ?_) (fun c_11 => ?_)) | refine tt_ifne (t := 22) (q := 14) hc dX9_read_11 rfl rfl (fun c_11 => ?_) (fun c_11 => ?_)
    · omega
    · refine tt_bipush (v := -100) (q := 16) hc (by decide) dX9_read_14 rfl ?_
      refine tt_al0 (q := 17) hc dX9_read_16 rfl ?_
      refine tt_getI (q := 20) hc fl_X9_269 (by first | assumption | exact ⟨by decide, _, rfl, _, rfl⟩) dX9_read_17 rfl ?_
      rw [mset_eq, pk_un (by decide), e20]
      refine tt_isub (q := 21) hc dX9_read_20 rfl ?_
      refine tt_reti hX rfl dX9_read_21 ?_
      exact hQ _ (hf2.ml (by decide)) (MRt _ hf2 (by rw [mset_eq, pk_us]))
  have T : (spl tx 12 0).1 = none → ∀ ν, mg [39, 25] [20, 21] μ ν → WM ν tx (spl tx 12 0).2 → TT X 4 [.ref 24, .long 0, .long 0, .long 0] [.int (nI 1)] ν := by
    intro hff ν hf hW
    rw [hff] at hQ
    dsimp only at hQ
    have hf2 : mg [39, 25] [19, 20, 21] μ (mset ν 24 (upd (ν 24) 19 (nI 0))) := (hf.mono (fun i hi => hi) (by decide)).tr (mg.own (by decide))
    generalize (spl tx 12 0).2 = ws at *
    refine tt_is1 (q := 5) hc dX9_read_4 rfl (by decide) ?_
    refine tt_al0 (q := 6) hc dX9_read_5 rfl ?_
    refine tt_iconst (v := nI 0) (q := 7) hc rfl dX9_read_6 rfl ?_
    refine tt_putI (q := 10) hc fp_X9_243 (by first | assumption | exact ⟨by decide, _, rfl, _, rfl⟩) dX9_read_7 rfl ?_
    refine tt_il1 (q := 11) hc dX9_read_10 rfl ?_
    first | (with_reducible refine chkb ?_; refine tt_ifneB (t := 22) (q := 14) hc dX9_read_11 rfl rfl (fun c_11 => ?_) (fun c_11 => ?_)) | (with_reducible refine chk1 ?_; refine tt_ifneN (t := 22) (q := 14) hc (by omega) dX9_read_11 rfl rfl (fun c_11 => ?_) (fun c_11 => ?_)) | refine tt_ifne (t := 22) (q := 14) hc dX9_read_11 rfl rfl (fun c_11 => ?_) (fun c_11 => ?_)
    · refine tt_iconst (v := nI 0) (q := 23) hc rfl dX9_read_22 rfl ?_
      refine tt_is2 (q := 24) hc dX9_read_23 rfl (by decide) ?_
      refine tt_iconst (v := nI 0) (q := 25) hc rfl dX9_read_24 rfl ?_
      refine tt_is3 (q := 26) hc dX9_read_25 rfl (by decide) ?_
      exact L ws hsl hok ws 0 0 _ _ List.drop_zero (Nat.zero_le _) (hf2.ml (by decide)) (MRt _ hf2 (by rw [mset_eq, pk_us])) ⟨by rw [mset_eq, pk_un (by decide)]; exact hW.1, fun j q hj => by rw [mset_ne (by decide), mset_ne (by decide)]; exact hW.2 j q hj⟩ hQ
    · omega
  refine tt_al0 (q := 1) hc dX9_read_0 rfl ?_
  refine tt_cV0 (q := 4) (d' := 6) (ci := 9) hc (by first | decide | omega) kmX9_takesAll ml_X9_324 (by first | assumption | exact ⟨by decide, _, rfl⟩) rfl (Nat.le_of_ble_eq_true rfl) dX9_read_1 rfl ?_
  exact c_X9_takesAll a7 F T
  skip
