/-! THE MODEL: flips in thought: plan, fewer, walk -/
theorem mwl_ml {μ ν : Mem} (h : mf mwL μ ν) : frm mL μ ν := h.ml (by decide)
theorem mwl_wk {μ ν : Mem} {S : ST} (hM : MR μ S) (h : mf mwL μ ν) : MR ν S := hM.wk h (by decide)
theorem lf_mwl {μ ν : Mem} (h : mf (lfL 0) μ ν) : mf mwL μ ν := h.mono (by decide)
theorem f87_mwl {μ ν : Mem} (h : frm [87] μ ν) : mf mwL μ ν := mf.fr (h.mono (by decide)) (by decide)
theorem cnt_or {P R : Nat → Bool} : ∀ n i, cnt (fun t => P t || R t) n i ≤ cnt P n i + cnt R n i
  | 0, _ => Nat.zero_le _
  | n + 1, i => by
    have ih := cnt_or (P := P) (R := R) n (i + 1)
    rw [cnt, cnt, cnt]
    cases P i <;> cases R i <;> simp <;> omega
theorem cnt_spl {P R : Nat → Bool} : ∀ n i, cnt P n i = cnt (fun t => P t && R t) n i + cnt (fun t => !R t && P t) n i
  | 0, _ => rfl
  | n + 1, i => by
    have ih := cnt_spl (P := P) (R := R) n (i + 1)
    rw [cnt, cnt, cnt]
    cases P i <;> cases R i <;> simp <;> omega
/-- a flip by which there are fewer -/
theorem tot_flp {K : Nat} {B : HP} (h : HOK K B) {a : Nat} (ha : a < 256) (hn : ¬ prt K B a = 0) (hl : pop a < pop (prt K B a)) : tot (flp K B a) < tot B := by
  obtain ⟨q1, q2, q3, q4, q5, q6⟩ := prt_pop h ha hn
  have e1 : tot (flp K B a) = cnt (fun t => insA a (a ||| prt K B a) 8 t || (!decide (t &&& a = a) && B t)) 256 0 := cnt_congr _ _ (fun t _ h2 => (flp_does h ha hn (by omega)).symm)
  have e2 := cnt_or (P := insA a (a ||| prt K B a) 8) (R := fun t => !decide (t &&& a = a) && B t) 256 0
  have e3 := insA_cnt (or_lt ha (prt_lt K B a)) (a := a) (pts := a ||| prt K B a) (fun q hq => by rw [Nat.testBit_or, hq, Bool.true_or]) 8 (Nat.le_refl _)
  rw [popn8 a ha] at e3
  have e4 : tot B = cW B a + cnt (fun t => !decide (t &&& a = a) && B t) 256 0 := cnt_spl 256 0
  omega
theorem fs1_at {P : Nat → Bool} : ∀ n s, 0 < fs1 P n s → P (fs1 P n s) = true
  | 0, _, h => absurd h (Nat.lt_irrefl _)
  | n + 1, s, h => by
    rw [fs1] at h ⊢
    split at h
    · rename_i c
      rw [if_pos c]
      exact c
    · rename_i c
      rw [if_neg c]
      exact fs1_at n (s + 1) h
def ffi (K : Nat) (B : HP) : List Nat → Nat → Option Nat
  | [], _ => none
  | a :: r, i => if pop a < pop (prt K B a) then some i else ffi K B r (i + 1)
theorem ffi_fs {K : Nat} {B : HP} (h : HOK K B) : ∀ n s i, s + n ≤ 256 → (ffi K B (flF K B n s) i = none ∧ fs1 (ffP K B) n s = 0) ∨ ∃ j, ffi K B (flF K B n s) i = some (i + j) ∧ (flF K B n s)[j]? = some (fs1 (ffP K B) n s)
  | 0, s, i, _ => Or.inl ⟨rfl, rfl⟩
  | n + 1, s, i, hs => by
    rw [flF, fs1]
    by_cases c : prt K B s = 0
    · have : ffP K B s = false := by simp [ffP, c]
      rw [if_pos c, this]
      simp only [Bool.false_eq_true, if_false]
      exact ffi_fs h n (s + 1) i (by omega)
    · have hp := prt_pop h (by omega) c
      rw [if_neg c, ffi]
      by_cases d : pop s < pop (prt K B s)
      · have : ffP K B s = true := by
          simp [ffP, c]
          omega
        rw [if_pos d, if_pos this]
        exact Or.inr ⟨0, rfl, rfl⟩
      · have : ¬ ffP K B s = true := by
          simp [ffP, c]
          omega
        rw [if_neg d, if_neg this]
        rcases ffi_fs h n (s + 1) (i + 1) (by omega) with z | ⟨j, z1, z2⟩
        · exact Or.inl z
        · exact Or.inr ⟨j + 1, by rw [z1]; congr 1; omega, by rw [List.getElem?_cons_succ]; exact z2⟩
theorem ffi_ff {K : Nat} {B : HP} (h : HOK K B) : (ffi K B (fl K B) 0 = none ∧ ff K B = 0) ∨ ∃ j, ffi K B (fl K B) 0 = some j ∧ (fl K B)[j]? = some (ff K B) := by
  rcases ffi_fs h 255 1 0 (by omega) with z | ⟨j, z1, z2⟩
  · exact Or.inl z
  · exact Or.inr ⟨j, by rw [← Nat.zero_add j]; exact z1, z2⟩
set_option maxHeartbeats 1000000 in
theorem c_X9_firstFewer {l : Launch} {K : Nat} {B : HP} {μ : Mem} {Q : Option Value → Mem → Prop} (hL : FL μ 0 K B) (hQ : Q (some (.int (onI (ffi K B (fl K B) 0)))) μ) : CC l 2 mX9_firstFewer [.ref 24] μ Q := by
  refine CC.of (M := mX9_firstFewer) (by decide +kernel) rfl (fun v h => by simp at h; subst h; rfl) (Nat.le_of_ble_eq_true rfl) (fun X hX => ?_)
  have hc := hX.cx
  have q30 := HQ30
  have q31 := HQ31
  have a32 := HA32
  have aA := HAf (j := 0) (by decide)
  have aB := HAg (j := 0) (by decide)
  have hl2 := fl_len K B
  have L : ∀ (r dn : List Nat), dn ++ r = fl K B → Q (some (.int (onI (ffi K B r dn.length)))) μ → TT X 2 [.ref 24, .int (nI dn.length)] [] μ := by
    intro r
    induction r with
    | nil =>
      intro dn hdn h
      rw [List.append_nil] at hdn
      have hl := congrArg List.length hdn
      refine tt_il1 (q := 3) hc dX9_firstFewer_2 rfl ?_
      refine tt_al0 (q := 4) hc dX9_firstFewer_3 rfl ?_
      refine tt_getR (q := 7) hc fl_X9_45 (by first | assumption | exact ⟨by decide, _, rfl, rfl⟩) dX9_firstFewer_4 rfl ?_
      refine tt_iconst (v := nI 0) (q := 8) hc rfl dX9_firstFewer_7 rfl ?_
      refine tt_iald (q := 9) hc (by first | assumption | exact ⟨by decide, rfl, by decide⟩) (by omega) dX9_firstFewer_8 rfl ?_
      rw [hL.1]
      first | (with_reducible refine chk2 ?_; refine tt_icgeN (t := 45) (q := 12) hc (by omega) (by omega) dX9_firstFewer_9 rfl rfl (fun c_9 => ?_) (fun c_9 => ?_)) | refine tt_icge (t := 45) (q := 12) hc dX9_firstFewer_9 rfl rfl (fun c_9 => ?_) (fun c_9 => ?_)
      · refine tt_bipush (v := -5) (q := 47) hc (by decide) dX9_firstFewer_45 rfl ?_
        refine tt_reti hX rfl dX9_firstFewer_47 ?_
        exact h
      · omega
    | cons b r ih =>
      intro dn hdn h
      have hb := app_at hdn
      have hl := congrArg List.length hdn
      rw [List.length_append, List.length_cons] at hl
      have hm := fl_mem (List.mem_of_getElem? hb)
      have hpl := prt_lt K B b
      have hp1 := pop_le _ hpl
      have hp2 := pop_le b hm.2.1
      rw [ffi] at h
      refine tt_il1 (q := 3) hc dX9_firstFewer_2 rfl ?_
      refine tt_al0 (q := 4) hc dX9_firstFewer_3 rfl ?_
      refine tt_getR (q := 7) hc fl_X9_45 (by first | assumption | exact ⟨by decide, _, rfl, rfl⟩) dX9_firstFewer_4 rfl ?_
      refine tt_iconst (v := nI 0) (q := 8) hc rfl dX9_firstFewer_7 rfl ?_
      refine tt_iald (q := 9) hc (by first | assumption | exact ⟨by decide, rfl, by decide⟩) (by omega) dX9_firstFewer_8 rfl ?_
      rw [hL.1]
      first | (with_reducible refine chk2 ?_; refine tt_icgeN (t := 45) (q := 12) hc (by omega) (by omega) dX9_firstFewer_9 rfl rfl (fun c_9 => ?_) (fun c_9 => ?_)) | refine tt_icge (t := 45) (q := 12) hc dX9_firstFewer_9 rfl rfl (fun c_9 => ?_) (fun c_9 => ?_)
      · omega
      · refine tt_al0 (q := 13) hc dX9_firstFewer_12 rfl ?_
        refine tt_getR (q := 16) hc fl_X9_39 (by first | assumption | exact ⟨by decide, _, rfl, rfl⟩) dX9_firstFewer_13 rfl ?_
        refine tt_iconst (v := nI 0) (q := 17) hc rfl dX9_firstFewer_16 rfl ?_
        refine tt_aald (q := 18) hc (r := _) (by first | assumption | exact ⟨by decide, rfl, by decide⟩) (by decide) (by omega) dX9_firstFewer_17 rfl ?_
        refine tt_il1 (q := 19) hc dX9_firstFewer_18 rfl ?_
        refine tt_iald (q := 20) hc (by first | assumption | exact ⟨by decide, rfl, by decide⟩) (by omega) dX9_firstFewer_19 rfl ?_
        rw [(hL.2 _ _ hb).1]
        refine tt_cS1 (q := 23) (d' := 1) hc (by first | decide | omega) kmX9_many ml_X9_110 (Nat.le_of_ble_eq_true rfl) dX9_firstFewer_20 rfl ?_
        refine c_X9_many ?_
        dsimp only [Option.toList, List.nil_append, List.cons_append]
        refine tt_al0 (q := 24) hc dX9_firstFewer_23 rfl ?_
        refine tt_getR (q := 27) hc fl_X9_42 (by first | assumption | exact ⟨by decide, _, rfl, rfl⟩) dX9_firstFewer_24 rfl ?_
        refine tt_iconst (v := nI 0) (q := 28) hc rfl dX9_firstFewer_27 rfl ?_
        refine tt_aald (q := 29) hc (r := _) (by first | assumption | exact ⟨by decide, rfl, by decide⟩) (by decide) (by omega) dX9_firstFewer_28 rfl ?_
        refine tt_il1 (q := 30) hc dX9_firstFewer_29 rfl ?_
        refine tt_iald (q := 31) hc (by first | assumption | exact ⟨by decide, rfl, by decide⟩) (by omega) dX9_firstFewer_30 rfl ?_
        rw [(hL.2 _ _ hb).2]
        refine tt_cS1 (q := 34) (d' := 1) hc (by first | decide | omega) kmX9_many ml_X9_110 (Nat.le_of_ble_eq_true rfl) dX9_firstFewer_31 rfl ?_
        refine c_X9_many ?_
        dsimp only [Option.toList, List.nil_append, List.cons_append]
        first | (with_reducible refine chk2 ?_; refine tt_icgeN (t := 39) (q := 37) hc (by omega) (by omega) dX9_firstFewer_34 rfl rfl (fun c_34 => ?_) (fun c_34 => ?_)) | refine tt_icge (t := 39) (q := 37) hc dX9_firstFewer_34 rfl rfl (fun c_34 => ?_) (fun c_34 => ?_)
        · first | refine tt_inc1 (q := 42) hc dX9_firstFewer_39 rfl (by decide) (incN _) ?_ | refine tt_inc1 (q := 42) hc dX9_firstFewer_39 rfl (by decide) rfl ?_
          refine tt_goto (t := 2) hc dX9_firstFewer_42 rfl ?_
          rw [if_neg (by omega)] at h
          rw [← snoc_len dn b]
          refine ih (dn ++ [b]) (by rw [snoc_app]; exact hdn) ?_
          rw [snoc_len]
          exact h
        · refine tt_il1 (q := 38) hc dX9_firstFewer_37 rfl ?_
          refine tt_reti hX rfl dX9_firstFewer_38 ?_
          rw [if_pos c_34] at h
          exact h
  refine tt_iconst (v := nI 0) (q := 1) hc rfl dX9_firstFewer_0 rfl ?_
  refine tt_is1 (q := 2) hc dX9_firstFewer_1 rfl (by decide) ?_
  exact L (fl K B) [] (List.nil_append _) hQ
theorem fl_non {K : Nat} {B : HP} (h : HOK K B) (ht : tot B = 0) : fl K B = [] := by
  cases e : fl K B with
  | nil => rfl
  | cons a r =>
    exfalso
    have hm := fl_mem (s := a) (by rw [e]; exact List.mem_cons_self)
    have hp := prt_pop h hm.2.1 hm.2.2
    have := cW_sub (t := 0) (fun u _ _ => Nat.and_zero u) hp.2.1
    rw [cW_0] at this
    omega
set_option maxHeartbeats 1000000 in
theorem c_X9_fewer {l : Launch} {w : Int32} {S : ST} {μ : Mem} {Q : Option Value → Mem → Prop} (hM : MR μ S) (hQ : ∀ μ', frm mL μ μ' → MR μ' S → Q (some (.int (an_fewer w S))) μ') : CC l 4 mX9_fewer [.ref 24, .int w] μ Q := by
  refine CC.of (M := mX9_fewer) (by decide +kernel) rfl (fun v h => by simp at h; rcases h with rfl | rfl <;> rfl) (Nat.le_of_ble_eq_true rfl) (fun X hX => ?_)
  have hc := hX.cx
  obtain ⟨K, B, hs, ks, im, ls, tx, pp⟩ := S
  obtain ⟨⟨a0, a1, a2⟩, -⟩ := id hM
  have a77 := HA77
  have a87 := HA87
  have q30 := HQ30
  have q31 := HQ31
  have q33 := HQ33
  have a32 := HA32
  have aA := HAf (j := 0) (by decide)
  have aB := HAg (j := 0) (by decide)
  dsimp only [an_fewer] at hQ
  have E : ∀ (j m : Nat) (C : HP) (ν : Mem) (w3 : Value), j ≤ 1 → HOK K C → BA ν 87 C → Q (some (.int (if nI j = nI 0 then nI m else nI (tot C)))) ν → TT X 94 [.ref 24, .int (nI j), .int (nI m), w3] [] ν := by
    intro j m C ν w3 hj hC hB h
    refine tt_il1 (q := 95) hc dX9_fewer_94 rfl ?_
    first | (with_reducible refine chkb ?_; refine tt_ifneB (t := 102) (q := 98) hc dX9_fewer_95 rfl rfl (fun c_95 => ?_) (fun c_95 => ?_)) | (with_reducible refine chk1 ?_; refine tt_ifneN (t := 102) (q := 98) hc (by omega) dX9_fewer_95 rfl rfl (fun c_95 => ?_) (fun c_95 => ?_)) | refine tt_ifne (t := 102) (q := 98) hc dX9_fewer_95 rfl rfl (fun c_95 => ?_) (fun c_95 => ?_)
    · refine tt_al0 (q := 103) hc dX9_fewer_102 rfl ?_
      refine tt_getR (q := 106) hc fl_X9_48 (by first | assumption | exact ⟨by decide, _, rfl, rfl⟩) dX9_fewer_103 rfl ?_
      refine tt_iconst (v := nI 0) (q := 107) hc rfl dX9_fewer_106 rfl ?_
      refine tt_aald (q := 108) hc (r := _) (by first | assumption | exact ⟨by decide, rfl, by decide⟩) (by decide) (by omega) dX9_fewer_107 rfl ?_
      refine tt_cS1 (q := 111) (d' := 0) hc (by first | decide | omega) kmX9_bodiesOf ml_X9_140 (Nat.le_of_ble_eq_true rfl) dX9_fewer_108 rfl ?_
      refine c_X9_bodiesOf a87 hC hB ?_
      dsimp only [Option.toList, List.nil_append, List.cons_append]
      refine tt_reti hX rfl dX9_fewer_111 ?_
      first
      | (rw [if_pos (by rw [c_95])] at h; exact h)
      | (rw [if_neg (show ¬ nI j = nI 0 from nI_ne0 c_95 (by omega))] at h; exact h)
    · refine tt_il2 (q := 99) hc dX9_fewer_98 rfl ?_
      refine tt_goto (t := 111) hc dX9_fewer_99 rfl ?_
      refine tt_reti hX rfl dX9_fewer_111 ?_
      first
      | (rw [if_pos (by rw [c_95])] at h; exact h)
      | (rw [if_neg (show ¬ nI j = nI 0 from nI_ne0 c_95 (by omega))] at h; exact h)
  have L : ∀ (j : Nat), j ≤ 1 → ∀ (f : Nat) (C : HP) (m : Nat) (ν : Mem), tot C ≤ f → HOK K C → BA ν 87 C → FL ν 0 K C → ν 24 0 = nI K → mf mwL μ ν → (∀ μ', mf mwL μ μ' → Q (some (.int (if nI j = nI 0 then nI (fwr K f C m).2 else nI (tot (fwr K f C m).1)))) μ') → TT X 42 [.ref 24, .int (nI j), .int (nI m), .int (onI (ffi K C (fl K C) 0))] [] ν := by
    intro j hj f
    induction f with
    | zero =>
      intro C m ν ht hC hB hL hz hf h
      have e : ffi K C (fl K C) 0 = none := by rw [fl_non hC (by omega)]; rfl
      rw [e]
      refine tt_il3 (q := 43) hc dX9_fewer_42 rfl ?_
      refine tt_iflt (t := 94) (q := 46) hc dX9_fewer_43 rfl rfl (fun c_43 => ?_) (fun c_43 => ?_)
      · exact E j m C ν _ hj hC hB (h ν hf)
      · exact absurd (by decide) c_43
    | succ f ih =>
      intro C m ν ht hC hB hL hz hf h
      rw [fwr] at h
      rcases ffi_ff hC with ⟨e1, e2⟩ | ⟨i, e1, hg⟩
      · rw [if_pos e2] at h
        rw [e1]
        refine tt_il3 (q := 43) hc dX9_fewer_42 rfl ?_
        refine tt_iflt (t := 94) (q := 46) hc dX9_fewer_43 rfl rfl (fun c_43 => ?_) (fun c_43 => ?_)
        · exact E j m C ν _ hj hC hB (h ν hf)
        · exact absurd (by decide) c_43
      · have hm := fl_mem (List.mem_of_getElem? hg)
        rw [if_neg (show ¬ ff K C = 0 by omega)] at h
        have hi := (List.getElem?_eq_some_iff.mp hg).1
        have hl2 := fl_len K C
        have hff : ffP K C (ff K C) = true := by
          rcases Nat.eq_zero_or_pos (ff K C) with z | z
          · omega
          · exact fs1_at 255 1 z
        have hp := prt_pop hC hm.2.1 hm.2.2
        have hlt : pop (ff K C) < pop (prt K C (ff K C)) := by
          simp only [ffP, Bool.and_eq_true, decide_eq_true_eq] at hff
          omega
        have htl := tot_flp hC hm.2.1 hm.2.2 hlt
        have hK := flp_ok hC hm.2.1
        generalize ff K C = a at *
        rw [e1]
        refine tt_il3 (q := 43) hc dX9_fewer_42 rfl ?_
        refine tt_iflt (t := 94) (q := 46) hc dX9_fewer_43 rfl rfl (fun c_43 => ?_) (fun c_43 => ?_)
        · exact absurd c_43 (onI_nneg (by omega))
        · rw [show onI (some i) = nI i from rfl]
          refine tt_al0 (q := 47) hc dX9_fewer_46 rfl ?_
          refine tt_al0 (q := 48) hc dX9_fewer_47 rfl ?_
          refine tt_getR (q := 51) hc fl_X9_48 (by first | assumption | exact ⟨by decide, _, rfl, rfl⟩) dX9_fewer_48 rfl ?_
          refine tt_iconst (v := nI 0) (q := 52) hc rfl dX9_fewer_51 rfl ?_
          refine tt_aald (q := 53) hc (r := _) (by first | assumption | exact ⟨by decide, rfl, by decide⟩) (by decide) (by omega) dX9_fewer_52 rfl ?_
          refine tt_al0 (q := 54) hc dX9_fewer_53 rfl ?_
          refine tt_getR (q := 57) hc fl_X9_39 (by first | assumption | exact ⟨by decide, _, rfl, rfl⟩) dX9_fewer_54 rfl ?_
          refine tt_iconst (v := nI 0) (q := 58) hc rfl dX9_fewer_57 rfl ?_
          refine tt_aald (q := 59) hc (r := _) (by first | assumption | exact ⟨by decide, rfl, by decide⟩) (by decide) (by omega) dX9_fewer_58 rfl ?_
          refine tt_il3 (q := 60) hc dX9_fewer_59 rfl ?_
          refine tt_iald (q := 61) hc (by first | assumption | exact ⟨by decide, rfl, by decide⟩) (by omega) dX9_fewer_60 rfl ?_
          rw [(hL.2 _ _ hg).1]
          refine tt_al0 (q := 62) hc dX9_fewer_61 rfl ?_
          refine tt_getR (q := 65) hc fl_X9_42 (by first | assumption | exact ⟨by decide, _, rfl, rfl⟩) dX9_fewer_62 rfl ?_
          refine tt_iconst (v := nI 0) (q := 66) hc rfl dX9_fewer_65 rfl ?_
          refine tt_aald (q := 67) hc (r := _) (by first | assumption | exact ⟨by decide, rfl, by decide⟩) (by decide) (by omega) dX9_fewer_66 rfl ?_
          refine tt_il3 (q := 68) hc dX9_fewer_67 rfl ?_
          refine tt_iald (q := 69) hc (by first | assumption | exact ⟨by decide, rfl, by decide⟩) (by omega) dX9_fewer_68 rfl ?_
          rw [(hL.2 _ _ hg).2]
          refine tt_cV3 (q := 72) (d' := 0) (ci := 9) hc (by first | decide | omega) kmX9_does ml_X9_210 (by first | assumption | exact ⟨by decide, _, rfl⟩) rfl (Nat.le_of_ble_eq_true rfl) dX9_fewer_69 rfl ?_
          refine c_X9_does a87 hC hB hm.2.1 rfl hm.2.2 (fun ν2 hf2 hB2 => ?_)
          have z2 : ν2 24 0 = nI K := by rw [hf2 24 (by decide)]; exact hz
          dsimp only [Option.toList, List.nil_append, List.cons_append]
          first | refine tt_inc2 (q := 75) hc dX9_fewer_72 rfl (by decide) (incN _) ?_ | refine tt_inc2 (q := 75) hc dX9_fewer_72 rfl (by decide) rfl ?_
          refine tt_al0 (q := 76) hc dX9_fewer_75 rfl ?_
          refine tt_al0 (q := 77) hc dX9_fewer_76 rfl ?_
          refine tt_getR (q := 80) hc fl_X9_48 (by first | assumption | exact ⟨by decide, _, rfl, rfl⟩) dX9_fewer_77 rfl ?_
          refine tt_iconst (v := nI 0) (q := 81) hc rfl dX9_fewer_80 rfl ?_
          refine tt_aald (q := 82) hc (r := _) (by first | assumption | exact ⟨by decide, rfl, by decide⟩) (by decide) (by omega) dX9_fewer_81 rfl ?_
          refine tt_iconst (v := nI 0) (q := 83) hc rfl dX9_fewer_82 rfl ?_
          refine tt_cV2 (q := 86) (d' := 3) (ci := 9) hc (by first | decide | omega) kmX9_layFlips ml_X9_203 (by first | assumption | exact ⟨by decide, _, rfl⟩) rfl (Nat.le_of_ble_eq_true rfl) dX9_fewer_83 rfl ?_
          refine c_X9_layFlips a87 (by decide) (by decide) hK hB2 z2 (fun ν3 hf3 h33 hF3 hL3 => ?_)
          dsimp only [Option.toList, List.nil_append, List.cons_append]
          refine tt_al0 (q := 87) hc dX9_fewer_86 rfl ?_
          refine tt_cV0 (q := 90) (d' := 2) (ci := 9) hc (by first | decide | omega) kmX9_firstFewer ml_X9_238 (by first | assumption | exact ⟨by decide, _, rfl⟩) rfl (Nat.le_of_ble_eq_true rfl) dX9_fewer_87 rfl ?_
          refine c_X9_firstFewer hL3 ?_
          dsimp only [Option.toList, List.nil_append, List.cons_append]
          refine tt_is3 (q := 91) hc dX9_fewer_90 rfl (by decide) ?_
          refine tt_goto (t := 42) hc dX9_fewer_91 rfl ?_
          exact ih (flp K C a) (m + 1) ν3 (by omega) hK (hB2.mf hf3 (by decide) (by decide)) hL3 ((hf3.2 0 (by decide)).trans z2) (hf.tr ((f87_mwl hf2).tr (lf_mwl hf3))) h
  refine tt_il1 (q := 1) hc dX9_fewer_0 rfl ?_
  refine tt_iconst (v := nI 0) (q := 2) hc rfl dX9_fewer_1 rfl ?_
  refine tt_iconst (v := nI 1) (q := 3) hc rfl dX9_fewer_2 rfl ?_
  refine tt_cS3 (q := 6) (d' := 0) hc (by first | decide | omega) kmX9_in ml_X9_91 (Nat.le_of_ble_eq_true rfl) dX9_fewer_3 rfl ?_
  refine c_X9_in ?_
  dsimp only [Option.toList, List.nil_append, List.cons_append]
  first | (with_reducible refine chkb ?_; refine tt_ifneB (t := 11) (q := 9) hc dX9_fewer_6 rfl rfl (fun c_6 => ?_) (fun c_6 => ?_)) | (with_reducible refine chk1 ?_; refine tt_ifneN (t := 11) (q := 9) hc (by omega) dX9_fewer_6 rfl rfl (fun c_6 => ?_) (fun c_6 => ?_)) | refine tt_ifne (t := 11) (q := 9) hc dX9_fewer_6 rfl rfl (fun c_6 => ?_) (fun c_6 => ?_)
  · rw [if_pos c_6] at hQ
    obtain ⟨j, -, hj, rfl⟩ := inB_t (by decide) (by decide) c_6
    refine tt_al0 (q := 12) hc dX9_fewer_11 rfl ?_
    refine tt_getR (q := 15) hc fl_X9_15 (by first | assumption | exact ⟨by decide, _, rfl, rfl⟩) dX9_fewer_12 rfl ?_
    refine tt_al0 (q := 16) hc dX9_fewer_15 rfl ?_
    refine tt_getR (q := 19) hc fl_X9_48 (by first | assumption | exact ⟨by decide, _, rfl, rfl⟩) dX9_fewer_16 rfl ?_
    refine tt_iconst (v := nI 0) (q := 20) hc rfl dX9_fewer_19 rfl ?_
    refine tt_aald (q := 21) hc (r := _) (by first | assumption | exact ⟨by decide, rfl, by decide⟩) (by decide) (by omega) dX9_fewer_20 rfl ?_
    refine tt_cS2 (q := 24) (d' := 1) hc (by first | decide | omega) kmX9_lays ml_X9_123 (Nat.le_of_ble_eq_true rfl) dX9_fewer_21 rfl ?_
    refine c_X9_lays a77 a87 a2 (fun ν1 hf1 hB1 => ?_)
    have z1 : ν1 24 0 = nI K := by rw [hf1 24 (by decide)]; exact a1
    dsimp only [Option.toList, List.nil_append, List.cons_append]
    refine tt_iconst (v := nI 0) (q := 25) hc rfl dX9_fewer_24 rfl ?_
    refine tt_is2 (q := 26) hc dX9_fewer_25 rfl (by decide) ?_
    refine tt_al0 (q := 27) hc dX9_fewer_26 rfl ?_
    refine tt_al0 (q := 28) hc dX9_fewer_27 rfl ?_
    refine tt_getR (q := 31) hc fl_X9_48 (by first | assumption | exact ⟨by decide, _, rfl, rfl⟩) dX9_fewer_28 rfl ?_
    refine tt_iconst (v := nI 0) (q := 32) hc rfl dX9_fewer_31 rfl ?_
    refine tt_aald (q := 33) hc (r := _) (by first | assumption | exact ⟨by decide, rfl, by decide⟩) (by decide) (by omega) dX9_fewer_32 rfl ?_
    refine tt_iconst (v := nI 0) (q := 34) hc rfl dX9_fewer_33 rfl ?_
    refine tt_cV2 (q := 37) (d' := 3) (ci := 9) hc (by first | decide | omega) kmX9_layFlips ml_X9_203 (by first | assumption | exact ⟨by decide, _, rfl⟩) rfl (Nat.le_of_ble_eq_true rfl) dX9_fewer_34 rfl ?_
    refine c_X9_layFlips a87 (by decide) (by decide) a0 hB1 z1 (fun ν2 hf2 h32 hF2 hL2 => ?_)
    dsimp only [Option.toList, List.nil_append, List.cons_append]
    refine tt_al0 (q := 38) hc dX9_fewer_37 rfl ?_
    refine tt_cV0 (q := 41) (d' := 2) (ci := 9) hc (by first | decide | omega) kmX9_firstFewer ml_X9_238 (by first | assumption | exact ⟨by decide, _, rfl⟩) rfl (Nat.le_of_ble_eq_true rfl) dX9_fewer_38 rfl ?_
    refine c_X9_firstFewer hL2 ?_
    dsimp only [Option.toList, List.nil_append, List.cons_append]
    refine tt_is3 (q := 42) hc dX9_fewer_41 rfl (by decide) ?_
    exact L j hj 70 B 0 ν2 (tot_le a0) a0 (hB1.mf hf2 (by decide) (by decide)) hL2 ((hf2.2 0 (by decide)).trans z1) ((f87_mwl hf1).tr (lf_mwl hf2)) (fun μ' h => hQ μ' (mwl_ml h) (mwl_wk hM h))
  · refine tt_iconst (v := -1) (q := 10) hc rfl dX9_fewer_9 rfl ?_
    refine tt_reti hX rfl dX9_fewer_10 ?_
    rw [if_neg (by rw [c_6]; exact Bool.false_ne_true)] at hQ
    exact hQ μ frm.rf hM
theorem wlk_stop {K : Nat} {B : HP} (h : (fl K B).length = 0) : ∀ (n : Nat) (z : Int32), wlk K n B z = B
  | 0, _ => rfl
  | n + 1, z => by rw [wlk, if_pos h]
set_option maxHeartbeats 1000000 in
theorem c_X9_walk {l : Launch} {n z w : Int32} {S : ST} {μ : Mem} {Q : Option Value → Mem → Prop} (hM : MR μ S) (hQ : ∀ μ', frm mL μ μ' → MR μ' S → Q (some (.int (an_walk n z w S))) μ') : CC l 4 mX9_walk [.ref 24, .int n, .int z, .int w] μ Q := by
  refine CC.of (M := mX9_walk) (by decide +kernel) rfl (fun v h => by simp at h; rcases h with rfl | rfl | rfl | rfl <;> rfl) (Nat.le_of_ble_eq_true rfl) (fun X hX => ?_)
  have hc := hX.cx
  obtain ⟨K, B, hs, ks, im, ls, tx, pp⟩ := S
  obtain ⟨⟨a0, a1, a2⟩, -⟩ := id hM
  have a77 := HA77
  have a87 := HA87
  have q30 := HQ30
  have q31 := HQ31
  have q33 := HQ33
  have a32 := HA32
  have aA := HAf (j := 0) (by decide)
  have aB := HAg (j := 0) (by decide)
  dsimp only [an_walk] at hQ
  have E : ∀ (nn j : Nat) (C : HP) (x : Int32) (ν : Mem) (w5 w6 : Value), j ≤ 2 → HOK K C → BA ν 87 C → mf mwL μ ν → (∀ μ', mf mwL μ μ' → Q (some (.int (wkI C (nI j)))) μ') → TT X 134 [.ref 24, .int (nI nn), .int z, .int (nI j), .int x, w5, w6] [] ν := by
    intro nn j C x ν w5 w6 hj hC hB hf h
    refine tt_al0 (q := 135) hc dX9_walk_134 rfl ?_
    refine tt_al0 (q := 136) hc dX9_walk_135 rfl ?_
    refine tt_getR (q := 139) hc fl_X9_48 (by first | assumption | exact ⟨by decide, _, rfl, rfl⟩) dX9_walk_136 rfl ?_
    refine tt_iconst (v := nI 0) (q := 140) hc rfl dX9_walk_139 rfl ?_
    refine tt_aald (q := 141) hc (r := _) (by first | assumption | exact ⟨by decide, rfl, by decide⟩) (by decide) (by omega) dX9_walk_140 rfl ?_
    refine tt_cV1 (q := 144) (d' := 0) (ci := 9) hc (by first | decide | omega) kmX9_layFaces ml_X9_150 (by first | assumption | exact ⟨by decide, _, rfl⟩) rfl (Nat.le_of_ble_eq_true rfl) dX9_walk_141 rfl ?_
    refine c_X9_layFaces a87 (by decide) hC hB (fun ν1 hf1 hF1 => ?_)
    have h := h ν1 (hf.tr (hf1.mono (by decide)))
    have e4 : ν1 24 4 = nI (lkP C 0) := by rw [hF1.2.2, orB_lkP]
    have hB1 := hB.mf hf1 (by decide) (by decide)
    rw [wkI] at h
    dsimp only [Option.toList, List.nil_append, List.cons_append]
    refine tt_il3 (q := 145) hc dX9_walk_144 rfl ?_
    first | (with_reducible refine chkb ?_; refine tt_ifneB (t := 160) (q := 148) hc dX9_walk_145 rfl rfl (fun c_145 => ?_) (fun c_145 => ?_)) | (with_reducible refine chk1 ?_; refine tt_ifneN (t := 160) (q := 148) hc (by omega) dX9_walk_145 rfl rfl (fun c_145 => ?_) (fun c_145 => ?_)) | refine tt_ifne (t := 160) (q := 148) hc dX9_walk_145 rfl rfl (fun c_145 => ?_) (fun c_145 => ?_)
    · refine tt_il3 (q := 161) hc dX9_walk_160 rfl ?_
      refine tt_iconst (v := nI 1) (q := 162) hc rfl dX9_walk_161 rfl ?_
      first | (with_reducible refine chk2 ?_; refine tt_icneN (t := 172) (q := 165) hc (by omega) (by omega) dX9_walk_162 rfl rfl (fun c_162 => ?_) (fun c_162 => ?_)) | refine tt_icne (t := 172) (q := 165) hc dX9_walk_162 rfl rfl (fun c_162 => ?_) (fun c_162 => ?_)
      · refine tt_bipush (v := nI 100) (q := 174) hc (by decide) dX9_walk_172 rfl ?_
        refine tt_al0 (q := 175) hc dX9_walk_174 rfl ?_
        refine tt_cV0 (q := 178) (d' := 3) (ci := 9) hc (by first | decide | omega) kmX9_euler ml_X9_161 (by first | assumption | exact ⟨by decide, _, rfl⟩) rfl (Nat.le_of_ble_eq_true rfl) dX9_walk_175 rfl ?_
        refine c_X9_euler hF1 ?_
        dsimp only [Option.toList, List.nil_append, List.cons_append]
        refine tt_iadd (q := 179) hc dX9_walk_178 rfl ?_
        refine tt_reti hX rfl dX9_walk_179 ?_
        first
        | (rw [if_pos (by rw [c_145])] at h; exact h)
        | (rw [if_neg (show ¬ nI j = nI 0 from nI_ne0 c_145 (by omega)), if_pos (by rw [c_162])] at h; exact h)
        | (rw [if_neg (show ¬ nI j = nI 0 from nI_ne0 c_145 (by omega)), if_neg (fun z => c_162 ((nI_eq (by omega) (by decide)).mp z))] at h; exact h)
      · refine tt_al0 (q := 166) hc dX9_walk_165 rfl ?_
        refine tt_getI (q := 169) hc fl_X9_107 (by first | assumption | exact ⟨by decide, _, rfl, _, rfl⟩) dX9_walk_166 rfl ?_
        rw [e4]
        refine tt_goto (t := 179) hc dX9_walk_169 rfl ?_
        refine tt_reti hX rfl dX9_walk_179 ?_
        first
        | (rw [if_pos (by rw [c_145])] at h; exact h)
        | (rw [if_neg (show ¬ nI j = nI 0 from nI_ne0 c_145 (by omega)), if_pos (by rw [c_162])] at h; exact h)
        | (rw [if_neg (show ¬ nI j = nI 0 from nI_ne0 c_145 (by omega)), if_neg (fun z => c_162 ((nI_eq (by omega) (by decide)).mp z))] at h; exact h)
    · refine tt_al0 (q := 149) hc dX9_walk_148 rfl ?_
      refine tt_getR (q := 152) hc fl_X9_48 (by first | assumption | exact ⟨by decide, _, rfl, rfl⟩) dX9_walk_149 rfl ?_
      refine tt_iconst (v := nI 0) (q := 153) hc rfl dX9_walk_152 rfl ?_
      refine tt_aald (q := 154) hc (r := _) (by first | assumption | exact ⟨by decide, rfl, by decide⟩) (by decide) (by omega) dX9_walk_153 rfl ?_
      refine tt_cS1 (q := 157) (d' := 0) hc (by first | decide | omega) kmX9_bodiesOf ml_X9_140 (Nat.le_of_ble_eq_true rfl) dX9_walk_154 rfl ?_
      refine c_X9_bodiesOf a87 hC hB1 ?_
      dsimp only [Option.toList, List.nil_append, List.cons_append]
      refine tt_goto (t := 179) hc dX9_walk_157 rfl ?_
      refine tt_reti hX rfl dX9_walk_179 ?_
      first
      | (rw [if_pos (by rw [c_145])] at h; exact h)
      | (rw [if_neg (show ¬ nI j = nI 0 from nI_ne0 c_145 (by omega)), if_pos (by rw [c_162])] at h; exact h)
      | (rw [if_neg (show ¬ nI j = nI 0 from nI_ne0 c_145 (by omega)), if_neg (fun z => c_162 ((nI_eq (by omega) (by decide)).mp z))] at h; exact h)
  have L : ∀ (nn j : Nat), j ≤ 2 → nn ≤ 20 → ∀ (r i : Nat) (C : HP) (x : Int32) (ν : Mem) (w6 : Value), i + r = nn → HOK K C → BA ν 87 C → ν 24 0 = nI K → mf mwL μ ν → (∀ μ', mf mwL μ μ' → Q (some (.int (wkI (wlk K r C x) (nI j)))) μ') → TT X 43 [.ref 24, .int (nI nn), .int z, .int (nI j), .int x, .int (nI i), w6] [] ν := by
    intro nn j hj hnn r
    induction r with
    | zero =>
      intro i C x ν w6 hi hC hB hz hf h
      refine tt_il5 (q := 45) hc dX9_walk_43 rfl ?_
      refine tt_il1 (q := 46) hc dX9_walk_45 rfl ?_
      first | (with_reducible refine chk2 ?_; refine tt_icgeN (t := 134) (q := 49) hc (by omega) (by omega) dX9_walk_46 rfl rfl (fun c_46 => ?_) (fun c_46 => ?_)) | refine tt_icge (t := 134) (q := 49) hc dX9_walk_46 rfl rfl (fun c_46 => ?_) (fun c_46 => ?_)
      · exact E nn j C x ν _ _ hj hC hB hf h
      · omega
    | succ r ih =>
      intro i C x ν w6 hi hC hB hz hf h
      have hfl := fl_len K C
      refine tt_il5 (q := 45) hc dX9_walk_43 rfl ?_
      refine tt_il1 (q := 46) hc dX9_walk_45 rfl ?_
      first | (with_reducible refine chk2 ?_; refine tt_icgeN (t := 134) (q := 49) hc (by omega) (by omega) dX9_walk_46 rfl rfl (fun c_46 => ?_) (fun c_46 => ?_)) | refine tt_icge (t := 134) (q := 49) hc dX9_walk_46 rfl rfl (fun c_46 => ?_) (fun c_46 => ?_)
      · omega
      · refine tt_al0 (q := 50) hc dX9_walk_49 rfl ?_
        refine tt_al0 (q := 51) hc dX9_walk_50 rfl ?_
        refine tt_getR (q := 54) hc fl_X9_48 (by first | assumption | exact ⟨by decide, _, rfl, rfl⟩) dX9_walk_51 rfl ?_
        refine tt_iconst (v := nI 0) (q := 55) hc rfl dX9_walk_54 rfl ?_
        refine tt_aald (q := 56) hc (r := _) (by first | assumption | exact ⟨by decide, rfl, by decide⟩) (by decide) (by omega) dX9_walk_55 rfl ?_
        refine tt_iconst (v := nI 0) (q := 57) hc rfl dX9_walk_56 rfl ?_
        refine tt_cV2 (q := 60) (d' := 3) (ci := 9) hc (by first | decide | omega) kmX9_layFlips ml_X9_203 (by first | assumption | exact ⟨by decide, _, rfl⟩) rfl (Nat.le_of_ble_eq_true rfl) dX9_walk_57 rfl ?_
        refine c_X9_layFlips a87 (by decide) (by decide) hC hB hz (fun ν1 hf1 h32 hF1 hL1 => ?_)
        have hB1 := hB.mf hf1 (by decide) (by decide)
        have z1 := (hf1.2 0 (by decide)).trans hz
        have hf1 := hf.tr (lf_mwl hf1)
        dsimp only [Option.toList, List.nil_append, List.cons_append]
        refine tt_al0 (q := 61) hc dX9_walk_60 rfl ?_
        refine tt_getR (q := 64) hc fl_X9_45 (by first | assumption | exact ⟨by decide, _, rfl, rfl⟩) dX9_walk_61 rfl ?_
        refine tt_iconst (v := nI 0) (q := 65) hc rfl dX9_walk_64 rfl ?_
        refine tt_iald (q := 66) hc (by first | assumption | exact ⟨by decide, rfl, by decide⟩) (by omega) dX9_walk_65 rfl ?_
        rw [hL1.1]
        first | (with_reducible refine chkb ?_; refine tt_ifneB (t := 72) (q := 69) hc dX9_walk_66 rfl rfl (fun c_66 => ?_) (fun c_66 => ?_)) | (with_reducible refine chk1 ?_; refine tt_ifneN (t := 72) (q := 69) hc (by omega) dX9_walk_66 rfl rfl (fun c_66 => ?_) (fun c_66 => ?_)) | refine tt_ifne (t := 72) (q := 69) hc dX9_walk_66 rfl rfl (fun c_66 => ?_) (fun c_66 => ?_)
        · rw [wlk, if_neg (by omega)] at h
          refine tt_il4 (q := 74) hc dX9_walk_72 rfl ?_
          refine tt_ldc (q := 76) hc kc_X9_241 dX9_walk_74 rfl ?_
          first | (with_reducible refine chk2 ?_; refine tt_imulN (q := 77) hc dX9_walk_76 rfl ?_) | refine tt_imul (q := 77) hc dX9_walk_76 rfl ?_
          refine tt_sipush (v := nI 12345) (q := 80) hc (by decide) dX9_walk_77 rfl ?_
          first | (with_reducible refine chk2 ?_; refine tt_iaddN (q := 81) hc dX9_walk_80 rfl ?_) | refine tt_iadd (q := 81) hc dX9_walk_80 rfl ?_
          refine tt_is4 (q := 83) hc dX9_walk_81 rfl (by decide) ?_
          refine tt_il4 (q := 85) hc dX9_walk_83 rfl ?_
          refine tt_ldc (q := 87) hc kc_X9_242 dX9_walk_85 rfl ?_
          first | (with_reducible refine chk2 ?_; refine tt_iandN (q := 88) hc dX9_walk_87 rfl ?_) | (with_reducible refine chkan ?_; refine tt_iandnN (q := 88) hc dX9_walk_87 rfl ?_) | (with_reducible refine chkna ?_; refine tt_inandN (q := 88) hc dX9_walk_87 rfl ?_) | refine tt_iand (q := 88) hc dX9_walk_87 rfl ?_
          rw [pk_and (x * 1103515245 + nI 12345) (m := 2147483647) 31 (by decide)]
          have hm31 := Nat.mod_lt (x * 1103515245 + nI 12345).toBitVec.toNat (show 2 ^ 31 > 0 by decide)
          refine tt_bipush (v := nI 16) (q := 90) hc (by decide) dX9_walk_88 rfl ?_
          refine tt_ishrN (q := 91) hc hm31 (by decide) dX9_walk_90 rfl ?_
          rw [show (2 : Nat) ^ 16 = 65536 from rfl]
          refine tt_al0 (q := 92) hc dX9_walk_91 rfl ?_
          refine tt_getR (q := 95) hc fl_X9_45 (by first | assumption | exact ⟨by decide, _, rfl, rfl⟩) dX9_walk_92 rfl ?_
          refine tt_iconst (v := nI 0) (q := 96) hc rfl dX9_walk_95 rfl ?_
          refine tt_iald (q := 97) hc (by first | assumption | exact ⟨by decide, rfl, by decide⟩) (by omega) dX9_walk_96 rfl ?_
          rw [hL1.1]
          refine tt_iremN (q := 98) hc (by omega) c_66 (by omega) dX9_walk_97 rfl ?_
          rw [← drw]
          clear hm31
          have hd := Nat.mod_lt ((x * 1103515245 + nI 12345).toBitVec.toNat % 2 ^ 31 / 65536) c_66
          rw [← drw] at hd
          have hg := getD_some (d := 0) hd
          generalize (fl K C).getD (drw (x * 1103515245 + nI 12345) (fl K C).length) 0 = a at hg h
          have hm2 := fl_mem (List.mem_of_getElem? hg)
          generalize drw (x * 1103515245 + nI 12345) (fl K C).length = dr at hd hg ⊢
          refine tt_is6 (q := 100) hc dX9_walk_98 rfl (by decide) ?_
          refine tt_al0 (q := 101) hc dX9_walk_100 rfl ?_
          refine tt_al0 (q := 102) hc dX9_walk_101 rfl ?_
          refine tt_getR (q := 105) hc fl_X9_48 (by first | assumption | exact ⟨by decide, _, rfl, rfl⟩) dX9_walk_102 rfl ?_
          refine tt_iconst (v := nI 0) (q := 106) hc rfl dX9_walk_105 rfl ?_
          refine tt_aald (q := 107) hc (r := _) (by first | assumption | exact ⟨by decide, rfl, by decide⟩) (by decide) (by omega) dX9_walk_106 rfl ?_
          refine tt_al0 (q := 108) hc dX9_walk_107 rfl ?_
          refine tt_getR (q := 111) hc fl_X9_39 (by first | assumption | exact ⟨by decide, _, rfl, rfl⟩) dX9_walk_108 rfl ?_
          refine tt_iconst (v := nI 0) (q := 112) hc rfl dX9_walk_111 rfl ?_
          refine tt_aald (q := 113) hc (r := _) (by first | assumption | exact ⟨by decide, rfl, by decide⟩) (by decide) (by omega) dX9_walk_112 rfl ?_
          refine tt_il6 (q := 115) hc dX9_walk_113 rfl ?_
          refine tt_iald (q := 116) hc (by first | assumption | exact ⟨by decide, rfl, by decide⟩) (by omega) dX9_walk_115 rfl ?_
          rw [(hL1.2 _ _ hg).1]
          refine tt_al0 (q := 117) hc dX9_walk_116 rfl ?_
          refine tt_getR (q := 120) hc fl_X9_42 (by first | assumption | exact ⟨by decide, _, rfl, rfl⟩) dX9_walk_117 rfl ?_
          refine tt_iconst (v := nI 0) (q := 121) hc rfl dX9_walk_120 rfl ?_
          refine tt_aald (q := 122) hc (r := _) (by first | assumption | exact ⟨by decide, rfl, by decide⟩) (by decide) (by omega) dX9_walk_121 rfl ?_
          refine tt_il6 (q := 124) hc dX9_walk_122 rfl ?_
          refine tt_iald (q := 125) hc (by first | assumption | exact ⟨by decide, rfl, by decide⟩) (by omega) dX9_walk_124 rfl ?_
          rw [(hL1.2 _ _ hg).2]
          refine tt_cV3 (q := 128) (d' := 0) (ci := 9) hc (by first | decide | omega) kmX9_does ml_X9_210 (by first | assumption | exact ⟨by decide, _, rfl⟩) rfl (Nat.le_of_ble_eq_true rfl) dX9_walk_125 rfl ?_
          refine c_X9_does a87 hC hB1 hm2.2.1 rfl hm2.2.2 (fun ν2 hf2 hB2 => ?_)
          have z2 : ν2 24 0 = nI K := by rw [hf2 24 (by decide)]; exact z1
          dsimp only [Option.toList, List.nil_append, List.cons_append]
          first | refine tt_inc5 (q := 131) hc dX9_walk_128 rfl (by decide) (incN _) ?_ | refine tt_inc5 (q := 131) hc dX9_walk_128 rfl (by decide) rfl ?_
          refine tt_goto (t := 43) hc dX9_walk_131 rfl ?_
          first
          | (rw [wlk_stop c_66] at h
             exact ih (i + 1) C x ν1 _ (by omega) hC hB1 z1 hf1 (by rw [wlk_stop c_66]; exact h))
          | exact ih (i + 1) _ _ ν2 _ (by omega) (flp_ok hC hm2.2.1) hB2 z2 (hf1.tr (f87_mwl hf2)) h
        · refine tt_goto (t := 128) hc dX9_walk_69 rfl ?_
          first | refine tt_inc5 (q := 131) hc dX9_walk_128 rfl (by decide) (incN _) ?_ | refine tt_inc5 (q := 131) hc dX9_walk_128 rfl (by decide) rfl ?_
          refine tt_goto (t := 43) hc dX9_walk_131 rfl ?_
          first
          | (rw [wlk_stop c_66] at h
             exact ih (i + 1) C x ν1 _ (by omega) hC hB1 z1 hf1 (by rw [wlk_stop c_66]; exact h))
          | exact ih (i + 1) _ _ ν2 _ (by omega) (flp_ok hC hm2.2.1) hB2 z2 (hf1.tr (f87_mwl hf2)) h
  refine tt_il1 (q := 1) hc dX9_walk_0 rfl ?_
  refine tt_iconst (v := nI 0) (q := 2) hc rfl dX9_walk_1 rfl ?_
  refine tt_bipush (v := nI 20) (q := 4) hc (by decide) dX9_walk_2 rfl ?_
  refine tt_cS3 (q := 7) (d' := 0) hc (by first | decide | omega) kmX9_in ml_X9_91 (Nat.le_of_ble_eq_true rfl) dX9_walk_4 rfl ?_
  refine c_X9_in ?_
  dsimp only [Option.toList, List.nil_append, List.cons_append]
  first | (with_reducible refine chkb ?_; refine tt_ifneB (t := 13) (q := 10) hc dX9_walk_7 rfl rfl (fun c_7 => ?_) (fun c_7 => ?_)) | (with_reducible refine chk1 ?_; refine tt_ifneN (t := 13) (q := 10) hc (by omega) dX9_walk_7 rfl rfl (fun c_7 => ?_) (fun c_7 => ?_)) | refine tt_ifne (t := 13) (q := 10) hc dX9_walk_7 rfl rfl (fun c_7 => ?_) (fun c_7 => ?_)
  · rw [if_pos c_7] at hQ
    obtain ⟨nn, -, hnn, rfl⟩ := inB_t (by decide) (by decide) c_7
    rw [nI_clamp (by omega)] at hQ
    refine tt_il3 (q := 14) hc dX9_walk_13 rfl ?_
    refine tt_iconst (v := nI 0) (q := 15) hc rfl dX9_walk_14 rfl ?_
    refine tt_iconst (v := nI 2) (q := 16) hc rfl dX9_walk_15 rfl ?_
    refine tt_cS3 (q := 19) (d' := 0) hc (by first | decide | omega) kmX9_in ml_X9_91 (Nat.le_of_ble_eq_true rfl) dX9_walk_16 rfl ?_
    refine c_X9_in ?_
    dsimp only [Option.toList, List.nil_append, List.cons_append]
    first | (with_reducible refine chkb ?_; refine tt_ifneB (t := 24) (q := 22) hc dX9_walk_19 rfl rfl (fun c_19 => ?_) (fun c_19 => ?_)) | (with_reducible refine chk1 ?_; refine tt_ifneN (t := 24) (q := 22) hc (by omega) dX9_walk_19 rfl rfl (fun c_19 => ?_) (fun c_19 => ?_)) | refine tt_ifne (t := 24) (q := 22) hc dX9_walk_19 rfl rfl (fun c_19 => ?_) (fun c_19 => ?_)
    · rw [if_pos c_19] at hQ
      obtain ⟨j, -, hj, rfl⟩ := inB_t (by decide) (by decide) c_19
      refine tt_al0 (q := 25) hc dX9_walk_24 rfl ?_
      refine tt_getR (q := 28) hc fl_X9_15 (by first | assumption | exact ⟨by decide, _, rfl, rfl⟩) dX9_walk_25 rfl ?_
      refine tt_al0 (q := 29) hc dX9_walk_28 rfl ?_
      refine tt_getR (q := 32) hc fl_X9_48 (by first | assumption | exact ⟨by decide, _, rfl, rfl⟩) dX9_walk_29 rfl ?_
      refine tt_iconst (v := nI 0) (q := 33) hc rfl dX9_walk_32 rfl ?_
      refine tt_aald (q := 34) hc (r := _) (by first | assumption | exact ⟨by decide, rfl, by decide⟩) (by decide) (by omega) dX9_walk_33 rfl ?_
      refine tt_cS2 (q := 37) (d' := 1) hc (by first | decide | omega) kmX9_lays ml_X9_123 (Nat.le_of_ble_eq_true rfl) dX9_walk_34 rfl ?_
      refine c_X9_lays a77 a87 a2 (fun ν1 hf1 hB1 => ?_)
      have z1 : ν1 24 0 = nI K := by rw [hf1 24 (by decide)]; exact a1
      dsimp only [Option.toList, List.nil_append, List.cons_append]
      refine tt_il2 (q := 38) hc dX9_walk_37 rfl ?_
      refine tt_is4 (q := 40) hc dX9_walk_38 rfl (by decide) ?_
      refine tt_iconst (v := nI 0) (q := 41) hc rfl dX9_walk_40 rfl ?_
      refine tt_is5 (q := 43) hc dX9_walk_41 rfl (by decide) ?_
      exact L nn j hj hnn nn 0 B z ν1 _ (by omega) a0 hB1 z1 (f87_mwl hf1) (fun μ' h => hQ μ' (mwl_ml h) (mwl_wk hM h))
    · refine tt_iconst (v := -1) (q := 23) hc rfl dX9_walk_22 rfl ?_
      refine tt_reti hX rfl dX9_walk_23 ?_
      rw [if_neg (by rw [c_19]; exact Bool.false_ne_true)] at hQ
      exact hQ μ frm.rf hM
  · refine tt_bipush (v := -2) (q := 12) hc (by decide) dX9_walk_10 rfl ?_
    refine tt_reti hX rfl dX9_walk_12 ?_
    rw [if_neg (by rw [c_7]; exact Bool.false_ne_true)] at hQ
    exact hQ μ frm.rf hM
set_option maxHeartbeats 1000000 in
theorem c_X9_plan {l : Launch} {v w : Int32} {S : ST} {μ : Mem} {Q : Option Value → Mem → Prop} (hM : MR μ S) (hQ : ∀ μ', frm mL μ μ' → MR μ' S → Q (some (.int (an_plan v w S))) μ') : CC l 4 mX9_plan [.ref 24, .int v, .int w] μ Q := by
  refine CC.of (M := mX9_plan) (by decide +kernel) rfl (fun v h => by simp at h; rcases h with rfl | rfl | rfl <;> rfl) (Nat.le_of_ble_eq_true rfl) (fun X hX => ?_)
  have hc := hX.cx
  obtain ⟨K, B, hs, ks, im, ls, tx, pp⟩ := S
  obtain ⟨⟨a0, a1, a2⟩, -⟩ := id hM
  have a5 := hM.2.2.2.2.1
  have a77 := HA77
  have a87 := HA87
  have q30 := HQ30
  have q31 := HQ31
  have q33 := HQ33
  have q74 := HQ74
  have a73 := HA73
  have a32 := HA32
  have aA := HAf (j := 0) (by decide)
  have aB := HAg (j := 0) (by decide)
  dsimp only [an_plan] at hQ
  have E : ∀ (t j m : Nat) (C : HP) (ν : Mem) (w4 : Value), j ≤ 2 → HOK K C → BA ν 87 C → FA ν C → Q (some (.int (thI C m (nI j)))) ν → TT X 144 [.ref 24, .int (nI t), .int (nI j), .int (nI m), w4] [] ν := by
    intro t j m C ν w4 hj hC hB hF h
    rw [thI] at h
    refine tt_il2 (q := 145) hc dX9_plan_144 rfl ?_
    first | (with_reducible refine chkb ?_; refine tt_ifneB (t := 152) (q := 148) hc dX9_plan_145 rfl rfl (fun c_145 => ?_) (fun c_145 => ?_)) | (with_reducible refine chk1 ?_; refine tt_ifneN (t := 152) (q := 148) hc (by omega) dX9_plan_145 rfl rfl (fun c_145 => ?_) (fun c_145 => ?_)) | refine tt_ifne (t := 152) (q := 148) hc dX9_plan_145 rfl rfl (fun c_145 => ?_) (fun c_145 => ?_)
    · refine tt_il2 (q := 153) hc dX9_plan_152 rfl ?_
      refine tt_iconst (v := nI 1) (q := 154) hc rfl dX9_plan_153 rfl ?_
      first | (with_reducible refine chk2 ?_; refine tt_icneN (t := 169) (q := 157) hc (by omega) (by omega) dX9_plan_154 rfl rfl (fun c_154 => ?_) (fun c_154 => ?_)) | refine tt_icne (t := 169) (q := 157) hc dX9_plan_154 rfl rfl (fun c_154 => ?_) (fun c_154 => ?_)
      · refine tt_bipush (v := nI 100) (q := 171) hc (by decide) dX9_plan_169 rfl ?_
        refine tt_al0 (q := 172) hc dX9_plan_171 rfl ?_
        refine tt_cV0 (q := 175) (d' := 3) (ci := 9) hc (by first | decide | omega) kmX9_euler ml_X9_161 (by first | assumption | exact ⟨by decide, _, rfl⟩) rfl (Nat.le_of_ble_eq_true rfl) dX9_plan_172 rfl ?_
        refine c_X9_euler hF ?_
        dsimp only [Option.toList, List.nil_append, List.cons_append]
        refine tt_iadd (q := 176) hc dX9_plan_175 rfl ?_
        refine tt_reti hX rfl dX9_plan_176 ?_
        first
        | (rw [if_pos (by rw [c_145])] at h; exact h)
        | (rw [if_neg (show ¬ nI j = nI 0 from nI_ne0 c_145 (by omega)), if_pos (by rw [c_154])] at h; exact h)
        | (rw [if_neg (show ¬ nI j = nI 0 from nI_ne0 c_145 (by omega)), if_neg (fun z => c_154 ((nI_eq (by omega) (by decide)).mp z))] at h; exact h)
      · refine tt_al0 (q := 158) hc dX9_plan_157 rfl ?_
        refine tt_getR (q := 161) hc fl_X9_48 (by first | assumption | exact ⟨by decide, _, rfl, rfl⟩) dX9_plan_158 rfl ?_
        refine tt_iconst (v := nI 0) (q := 162) hc rfl dX9_plan_161 rfl ?_
        refine tt_aald (q := 163) hc (r := _) (by first | assumption | exact ⟨by decide, rfl, by decide⟩) (by decide) (by omega) dX9_plan_162 rfl ?_
        refine tt_cS1 (q := 166) (d' := 0) hc (by first | decide | omega) kmX9_bodiesOf ml_X9_140 (Nat.le_of_ble_eq_true rfl) dX9_plan_163 rfl ?_
        refine c_X9_bodiesOf a87 hC hB ?_
        dsimp only [Option.toList, List.nil_append, List.cons_append]
        refine tt_goto (t := 176) hc dX9_plan_166 rfl ?_
        refine tt_reti hX rfl dX9_plan_176 ?_
        first
        | (rw [if_pos (by rw [c_145])] at h; exact h)
        | (rw [if_neg (show ¬ nI j = nI 0 from nI_ne0 c_145 (by omega)), if_pos (by rw [c_154])] at h; exact h)
        | (rw [if_neg (show ¬ nI j = nI 0 from nI_ne0 c_145 (by omega)), if_neg (fun z => c_154 ((nI_eq (by omega) (by decide)).mp z))] at h; exact h)
    · refine tt_il3 (q := 149) hc dX9_plan_148 rfl ?_
      refine tt_goto (t := 176) hc dX9_plan_149 rfl ?_
      refine tt_reti hX rfl dX9_plan_176 ?_
      first
      | (rw [if_pos (by rw [c_145])] at h; exact h)
      | (rw [if_neg (show ¬ nI j = nI 0 from nI_ne0 c_145 (by omega)), if_pos (by rw [c_154])] at h; exact h)
      | (rw [if_neg (show ¬ nI j = nI 0 from nI_ne0 c_145 (by omega)), if_neg (fun z => c_154 ((nI_eq (by omega) (by decide)).mp z))] at h; exact h)
  have L : ∀ (t j : Nat) (xs : List Int32), t < 4 → ls t = some xs → j ≤ 2 → ∀ (r i : Nat) (C : HP) (ν : Mem) (w4 : Value), i + r = xs.length → HOK K C → BA ν 87 C → FL ν 0 K C → FA ν C → ν 24 0 = nI K → mf mwL μ ν → (∀ μ', mf mwL μ μ' → Q (some (.int (thI (pln K xs r i C i).1 (pln K xs r i C i).2 (nI j)))) μ') → TT X 56 [.ref 24, .int (nI t), .int (nI j), .int (nI i), w4] [] ν := by
    intro t j xs ht hls hj r
    have a108 : HA (108 + t) 0 40 := ⟨by omega, sh_li, by decide⟩
    obtain ⟨x1, x2, x3⟩ := a5.so ht hls
    induction r with
    | zero =>
      intro i C ν w4 hi hC hB hL hF hz hf h
      have e73 : ν 73 t = nI xs.length := by rw [hf.1 73 (by decide) (by decide)]; exact x2
      refine tt_il3 (q := 57) hc dX9_plan_56 rfl ?_
      refine tt_al0 (q := 58) hc dX9_plan_57 rfl ?_
      refine tt_getR (q := 61) hc fl_X9_76 (by first | assumption | exact ⟨by decide, _, rfl, rfl⟩) dX9_plan_58 rfl ?_
      refine tt_il1 (q := 62) hc dX9_plan_61 rfl ?_
      refine tt_iald (q := 63) hc (by first | assumption | exact ⟨by decide, rfl, by decide⟩) (by omega) dX9_plan_62 rfl ?_
      rw [e73]
      first | (with_reducible refine chk2 ?_; refine tt_icgeN (t := 144) (q := 66) hc (by omega) (by omega) dX9_plan_63 rfl rfl (fun c_63 => ?_) (fun c_63 => ?_)) | refine tt_icge (t := 144) (q := 66) hc dX9_plan_63 rfl rfl (fun c_63 => ?_) (fun c_63 => ?_)
      · exact E t j i C ν _ hj hC hB hF (h ν hf)
      · omega
    | succ r ih =>
      intro i C ν w4 hi hC hB hL hF hz hf h
      have e73 : ν 73 t = nI xs.length := by rw [hf.1 73 (by decide) (by decide)]; exact x2
      have hx := getD_some (l := xs) (i := i) (d := 0) (by omega)
      have e108 : ν (108 + t) i = xs.getD i 0 := by
        rw [hf.1 (108 + t) (fun z => by simp [mwL] at z; omega) (by omega)]
        exact x3 i _ hx
      have hfl := fl_len K C
      rw [pln] at h
      generalize xs.getD i 0 = x at *
      rcases lx_iff (l := fl K C) (v := x) (by omega) with ⟨k, a, hv, hk, hg, hlx, hin⟩ | ⟨hlx, hin⟩
      · rw [hlx] at h
        dsimp only at h
        have hm2 := fl_mem (List.mem_of_getElem? hg)
        have hK := flp_ok hC hm2.2.1
        subst hv
        refine tt_il3 (q := 57) hc dX9_plan_56 rfl ?_
        refine tt_al0 (q := 58) hc dX9_plan_57 rfl ?_
        refine tt_getR (q := 61) hc fl_X9_76 (by first | assumption | exact ⟨by decide, _, rfl, rfl⟩) dX9_plan_58 rfl ?_
        refine tt_il1 (q := 62) hc dX9_plan_61 rfl ?_
        refine tt_iald (q := 63) hc (by first | assumption | exact ⟨by decide, rfl, by decide⟩) (by omega) dX9_plan_62 rfl ?_
        rw [e73]
        first | (with_reducible refine chk2 ?_; refine tt_icgeN (t := 144) (q := 66) hc (by omega) (by omega) dX9_plan_63 rfl rfl (fun c_63 => ?_) (fun c_63 => ?_)) | refine tt_icge (t := 144) (q := 66) hc dX9_plan_63 rfl rfl (fun c_63 => ?_) (fun c_63 => ?_)
        · omega
        · refine tt_al0 (q := 67) hc dX9_plan_66 rfl ?_
          refine tt_getR (q := 70) hc fl_X9_79 (by first | assumption | exact ⟨by decide, _, rfl, rfl⟩) dX9_plan_67 rfl ?_
          refine tt_il1 (q := 71) hc dX9_plan_70 rfl ?_
          refine tt_aald (q := 72) hc (r := _) (by first | assumption | exact ⟨by decide, rfl, by decide⟩) (by decide) (by omega) dX9_plan_71 rfl ?_
          refine tt_il3 (q := 73) hc dX9_plan_72 rfl ?_
          refine tt_iald (q := 74) hc (by first | assumption | exact ⟨by decide, rfl, by decide⟩) (by omega) dX9_plan_73 rfl ?_
          rw [e108]
          refine tt_iconst (v := nI 0) (q := 75) hc rfl dX9_plan_74 rfl ?_
          refine tt_al0 (q := 76) hc dX9_plan_75 rfl ?_
          refine tt_getR (q := 79) hc fl_X9_45 (by first | assumption | exact ⟨by decide, _, rfl, rfl⟩) dX9_plan_76 rfl ?_
          refine tt_iconst (v := nI 0) (q := 80) hc rfl dX9_plan_79 rfl ?_
          refine tt_iald (q := 81) hc (by first | assumption | exact ⟨by decide, rfl, by decide⟩) (by omega) dX9_plan_80 rfl ?_
          rw [hL.1]
          refine tt_iconst (v := nI 1) (q := 82) hc rfl dX9_plan_81 rfl ?_
          refine tt_isub (q := 83) hc dX9_plan_82 rfl ?_
          refine tt_cS3 (q := 86) (d' := 0) hc (by first | decide | omega) kmX9_in ml_X9_91 (Nat.le_of_ble_eq_true rfl) dX9_plan_83 rfl ?_
          refine c_X9_in ?_
          rw [hin]
          dsimp only [Option.toList, List.nil_append, List.cons_append]
          first | (with_reducible refine chkb ?_; refine tt_ifeqB (t := 144) (q := 89) hc dX9_plan_86 rfl rfl (fun c_86 => ?_) (fun c_86 => ?_)) | (with_reducible refine chk1 ?_; refine tt_ifeqN (t := 144) (q := 89) hc (by omega) dX9_plan_86 rfl rfl (fun c_86 => ?_) (fun c_86 => ?_)) | refine tt_ifeq (t := 144) (q := 89) hc dX9_plan_86 rfl rfl (fun c_86 => ?_) (fun c_86 => ?_)
          · exact absurd c_86 (by decide)
          · refine tt_al0 (q := 90) hc dX9_plan_89 rfl ?_
            refine tt_getR (q := 93) hc fl_X9_79 (by first | assumption | exact ⟨by decide, _, rfl, rfl⟩) dX9_plan_90 rfl ?_
            refine tt_il1 (q := 94) hc dX9_plan_93 rfl ?_
            refine tt_aald (q := 95) hc (r := _) (by first | assumption | exact ⟨by decide, rfl, by decide⟩) (by decide) (by omega) dX9_plan_94 rfl ?_
            refine tt_il3 (q := 96) hc dX9_plan_95 rfl ?_
            refine tt_iald (q := 97) hc (by first | assumption | exact ⟨by decide, rfl, by decide⟩) (by omega) dX9_plan_96 rfl ?_
            rw [e108]
            refine tt_is4 (q := 99) hc dX9_plan_97 rfl (by decide) ?_
            refine tt_al0 (q := 100) hc dX9_plan_99 rfl ?_
            refine tt_al0 (q := 101) hc dX9_plan_100 rfl ?_
            refine tt_getR (q := 104) hc fl_X9_48 (by first | assumption | exact ⟨by decide, _, rfl, rfl⟩) dX9_plan_101 rfl ?_
            refine tt_iconst (v := nI 0) (q := 105) hc rfl dX9_plan_104 rfl ?_
            refine tt_aald (q := 106) hc (r := _) (by first | assumption | exact ⟨by decide, rfl, by decide⟩) (by decide) (by omega) dX9_plan_105 rfl ?_
            refine tt_al0 (q := 107) hc dX9_plan_106 rfl ?_
            refine tt_getR (q := 110) hc fl_X9_39 (by first | assumption | exact ⟨by decide, _, rfl, rfl⟩) dX9_plan_107 rfl ?_
            refine tt_iconst (v := nI 0) (q := 111) hc rfl dX9_plan_110 rfl ?_
            refine tt_aald (q := 112) hc (r := _) (by first | assumption | exact ⟨by decide, rfl, by decide⟩) (by decide) (by omega) dX9_plan_111 rfl ?_
            refine tt_il4 (q := 114) hc dX9_plan_112 rfl ?_
            refine tt_iald (q := 115) hc (by first | assumption | exact ⟨by decide, rfl, by decide⟩) (by omega) dX9_plan_114 rfl ?_
            rw [(hL.2 _ _ hg).1]
            refine tt_al0 (q := 116) hc dX9_plan_115 rfl ?_
            refine tt_getR (q := 119) hc fl_X9_42 (by first | assumption | exact ⟨by decide, _, rfl, rfl⟩) dX9_plan_116 rfl ?_
            refine tt_iconst (v := nI 0) (q := 120) hc rfl dX9_plan_119 rfl ?_
            refine tt_aald (q := 121) hc (r := _) (by first | assumption | exact ⟨by decide, rfl, by decide⟩) (by decide) (by omega) dX9_plan_120 rfl ?_
            refine tt_il4 (q := 123) hc dX9_plan_121 rfl ?_
            refine tt_iald (q := 124) hc (by first | assumption | exact ⟨by decide, rfl, by decide⟩) (by omega) dX9_plan_123 rfl ?_
            rw [(hL.2 _ _ hg).2]
            refine tt_cV3 (q := 127) (d' := 0) (ci := 9) hc (by first | decide | omega) kmX9_does ml_X9_210 (by first | assumption | exact ⟨by decide, _, rfl⟩) rfl (Nat.le_of_ble_eq_true rfl) dX9_plan_124 rfl ?_
            refine c_X9_does a87 hC hB hm2.2.1 rfl hm2.2.2 (fun ν2 hf2 hB2 => ?_)
            have z2 : ν2 24 0 = nI K := by rw [hf2 24 (by decide)]; exact hz
            dsimp only [Option.toList, List.nil_append, List.cons_append]
            first | refine tt_inc3 (q := 130) hc dX9_plan_127 rfl (by decide) (incN _) ?_ | refine tt_inc3 (q := 130) hc dX9_plan_127 rfl (by decide) rfl ?_
            refine tt_al0 (q := 131) hc dX9_plan_130 rfl ?_
            refine tt_al0 (q := 132) hc dX9_plan_131 rfl ?_
            refine tt_getR (q := 135) hc fl_X9_48 (by first | assumption | exact ⟨by decide, _, rfl, rfl⟩) dX9_plan_132 rfl ?_
            refine tt_iconst (v := nI 0) (q := 136) hc rfl dX9_plan_135 rfl ?_
            refine tt_aald (q := 137) hc (r := _) (by first | assumption | exact ⟨by decide, rfl, by decide⟩) (by decide) (by omega) dX9_plan_136 rfl ?_
            refine tt_iconst (v := nI 0) (q := 138) hc rfl dX9_plan_137 rfl ?_
            refine tt_cV2 (q := 141) (d' := 3) (ci := 9) hc (by first | decide | omega) kmX9_layFlips ml_X9_203 (by first | assumption | exact ⟨by decide, _, rfl⟩) rfl (Nat.le_of_ble_eq_true rfl) dX9_plan_138 rfl ?_
            refine c_X9_layFlips a87 (by decide) (by decide) hK hB2 z2 (fun ν3 hf3 h33 hF3 hL3 => ?_)
            dsimp only [Option.toList, List.nil_append, List.cons_append]
            refine tt_goto (t := 56) hc dX9_plan_141 rfl ?_
            exact ih (i + 1) _ ν3 _ (by omega) hK (hB2.mf hf3 (by decide) (by decide)) hL3 hF3 ((hf3.2 0 (by decide)).trans z2) (hf.tr ((f87_mwl hf2).tr (lf_mwl hf3))) h
      · rw [hlx] at h
        dsimp only at h
        refine tt_il3 (q := 57) hc dX9_plan_56 rfl ?_
        refine tt_al0 (q := 58) hc dX9_plan_57 rfl ?_
        refine tt_getR (q := 61) hc fl_X9_76 (by first | assumption | exact ⟨by decide, _, rfl, rfl⟩) dX9_plan_58 rfl ?_
        refine tt_il1 (q := 62) hc dX9_plan_61 rfl ?_
        refine tt_iald (q := 63) hc (by first | assumption | exact ⟨by decide, rfl, by decide⟩) (by omega) dX9_plan_62 rfl ?_
        rw [e73]
        first | (with_reducible refine chk2 ?_; refine tt_icgeN (t := 144) (q := 66) hc (by omega) (by omega) dX9_plan_63 rfl rfl (fun c_63 => ?_) (fun c_63 => ?_)) | refine tt_icge (t := 144) (q := 66) hc dX9_plan_63 rfl rfl (fun c_63 => ?_) (fun c_63 => ?_)
        · omega
        · refine tt_al0 (q := 67) hc dX9_plan_66 rfl ?_
          refine tt_getR (q := 70) hc fl_X9_79 (by first | assumption | exact ⟨by decide, _, rfl, rfl⟩) dX9_plan_67 rfl ?_
          refine tt_il1 (q := 71) hc dX9_plan_70 rfl ?_
          refine tt_aald (q := 72) hc (r := _) (by first | assumption | exact ⟨by decide, rfl, by decide⟩) (by decide) (by omega) dX9_plan_71 rfl ?_
          refine tt_il3 (q := 73) hc dX9_plan_72 rfl ?_
          refine tt_iald (q := 74) hc (by first | assumption | exact ⟨by decide, rfl, by decide⟩) (by omega) dX9_plan_73 rfl ?_
          rw [e108]
          refine tt_iconst (v := nI 0) (q := 75) hc rfl dX9_plan_74 rfl ?_
          refine tt_al0 (q := 76) hc dX9_plan_75 rfl ?_
          refine tt_getR (q := 79) hc fl_X9_45 (by first | assumption | exact ⟨by decide, _, rfl, rfl⟩) dX9_plan_76 rfl ?_
          refine tt_iconst (v := nI 0) (q := 80) hc rfl dX9_plan_79 rfl ?_
          refine tt_iald (q := 81) hc (by first | assumption | exact ⟨by decide, rfl, by decide⟩) (by omega) dX9_plan_80 rfl ?_
          rw [hL.1]
          refine tt_iconst (v := nI 1) (q := 82) hc rfl dX9_plan_81 rfl ?_
          refine tt_isub (q := 83) hc dX9_plan_82 rfl ?_
          refine tt_cS3 (q := 86) (d' := 0) hc (by first | decide | omega) kmX9_in ml_X9_91 (Nat.le_of_ble_eq_true rfl) dX9_plan_83 rfl ?_
          refine c_X9_in ?_
          rw [hin]
          dsimp only [Option.toList, List.nil_append, List.cons_append]
          first | (with_reducible refine chkb ?_; refine tt_ifeqB (t := 144) (q := 89) hc dX9_plan_86 rfl rfl (fun c_86 => ?_) (fun c_86 => ?_)) | (with_reducible refine chk1 ?_; refine tt_ifeqN (t := 144) (q := 89) hc (by omega) dX9_plan_86 rfl rfl (fun c_86 => ?_) (fun c_86 => ?_)) | refine tt_ifeq (t := 144) (q := 89) hc dX9_plan_86 rfl rfl (fun c_86 => ?_) (fun c_86 => ?_)
          · exact E t j i C ν _ hj hC hB hF (h ν hf)
          · exact absurd c_86 (by decide)
  have M : inB v (nI 0) (nI 3) = true → inB w (nI 0) (nI 2) = true → TT X 18 [.ref 24, .int v, .int w, .long 0, .long 0] [] μ := by
    intro hin hin2
    rw [if_pos ⟨hin, hin2⟩] at hQ
    obtain ⟨t, -, ht, rfl⟩ := inB_t (by decide) (by decide) hin
    obtain ⟨j, -, hj, rfl⟩ := inB_t (by decide) (by decide) hin2
    rw [nI_clamp (by omega)] at hQ
    cases hls : ls t with
    | none =>
      have e := a5.no (by omega) hls
      rw [hls] at hQ
      refine tt_al0 (q := 19) hc dX9_plan_18 rfl ?_
      refine tt_getR (q := 22) hc fl_X9_76 (by first | assumption | exact ⟨by decide, _, rfl, rfl⟩) dX9_plan_19 rfl ?_
      refine tt_il1 (q := 23) hc dX9_plan_22 rfl ?_
      refine tt_iald (q := 24) hc (by first | assumption | exact ⟨by decide, rfl, by decide⟩) (by omega) dX9_plan_23 rfl ?_
      rw [e]
      refine tt_ifge (t := 30) (q := 27) hc dX9_plan_24 rfl rfl (fun c_24 => ?_) (fun c_24 => ?_)
      · exact absurd c_24 (by decide)
      · refine tt_bipush (v := -11) (q := 29) hc (by decide) dX9_plan_27 rfl ?_
        refine tt_reti hX rfl dX9_plan_29 ?_
        exact hQ μ frm.rf hM
    | some xs =>
      have e := (a5.so (by omega) hls).2.1
      have el := (a5.so (by omega) hls).1
      rw [hls] at hQ
      dsimp only at hQ
      refine tt_al0 (q := 19) hc dX9_plan_18 rfl ?_
      refine tt_getR (q := 22) hc fl_X9_76 (by first | assumption | exact ⟨by decide, _, rfl, rfl⟩) dX9_plan_19 rfl ?_
      refine tt_il1 (q := 23) hc dX9_plan_22 rfl ?_
      refine tt_iald (q := 24) hc (by first | assumption | exact ⟨by decide, rfl, by decide⟩) (by omega) dX9_plan_23 rfl ?_
      rw [e]
      refine tt_ifgeN (t := 30) (q := 27) hc (by omega) dX9_plan_24 rfl rfl ?_
      refine tt_al0 (q := 31) hc dX9_plan_30 rfl ?_
      refine tt_getR (q := 34) hc fl_X9_15 (by first | assumption | exact ⟨by decide, _, rfl, rfl⟩) dX9_plan_31 rfl ?_
      refine tt_al0 (q := 35) hc dX9_plan_34 rfl ?_
      refine tt_getR (q := 38) hc fl_X9_48 (by first | assumption | exact ⟨by decide, _, rfl, rfl⟩) dX9_plan_35 rfl ?_
      refine tt_iconst (v := nI 0) (q := 39) hc rfl dX9_plan_38 rfl ?_
      refine tt_aald (q := 40) hc (r := _) (by first | assumption | exact ⟨by decide, rfl, by decide⟩) (by decide) (by omega) dX9_plan_39 rfl ?_
      refine tt_cS2 (q := 43) (d' := 1) hc (by first | decide | omega) kmX9_lays ml_X9_123 (Nat.le_of_ble_eq_true rfl) dX9_plan_40 rfl ?_
      refine c_X9_lays a77 a87 a2 (fun ν1 hf1 hB1 => ?_)
      have z1 : ν1 24 0 = nI K := by rw [hf1 24 (by decide)]; exact a1
      dsimp only [Option.toList, List.nil_append, List.cons_append]
      refine tt_iconst (v := nI 0) (q := 44) hc rfl dX9_plan_43 rfl ?_
      refine tt_is3 (q := 45) hc dX9_plan_44 rfl (by decide) ?_
      refine tt_al0 (q := 46) hc dX9_plan_45 rfl ?_
      refine tt_al0 (q := 47) hc dX9_plan_46 rfl ?_
      refine tt_getR (q := 50) hc fl_X9_48 (by first | assumption | exact ⟨by decide, _, rfl, rfl⟩) dX9_plan_47 rfl ?_
      refine tt_iconst (v := nI 0) (q := 51) hc rfl dX9_plan_50 rfl ?_
      refine tt_aald (q := 52) hc (r := _) (by first | assumption | exact ⟨by decide, rfl, by decide⟩) (by decide) (by omega) dX9_plan_51 rfl ?_
      refine tt_iconst (v := nI 0) (q := 53) hc rfl dX9_plan_52 rfl ?_
      refine tt_cV2 (q := 56) (d' := 3) (ci := 9) hc (by first | decide | omega) kmX9_layFlips ml_X9_203 (by first | assumption | exact ⟨by decide, _, rfl⟩) rfl (Nat.le_of_ble_eq_true rfl) dX9_plan_53 rfl ?_
      refine c_X9_layFlips a87 (by decide) (by decide) a0 hB1 z1 (fun ν2 hf2 h32 hF2 hL2 => ?_)
      dsimp only [Option.toList, List.nil_append, List.cons_append]
      exact L t j xs (by omega) hls hj xs.length 0 B ν2 _ (by omega) a0 (hB1.mf hf2 (by decide) (by decide)) hL2 hF2 ((hf2.2 0 (by decide)).trans z1) ((f87_mwl hf1).tr (lf_mwl hf2)) (fun μ' h => hQ μ' (mwl_ml h) (mwl_wk hM h))
  refine tt_il1 (q := 1) hc dX9_plan_0 rfl ?_
  refine tt_cS1 (q := 4) (d' := 1) hc (by first | decide | omega) kmX9_isList ml_X9_336 (Nat.le_of_ble_eq_true rfl) dX9_plan_1 rfl ?_
  refine c_X9_isList ?_
  dsimp only [Option.toList, List.nil_append, List.cons_append]
  first | (with_reducible refine chkb ?_; refine tt_ifeqB (t := 16) (q := 7) hc dX9_plan_4 rfl rfl (fun c_4 => ?_) (fun c_4 => ?_)) | (with_reducible refine chk1 ?_; refine tt_ifeqN (t := 16) (q := 7) hc (by omega) dX9_plan_4 rfl rfl (fun c_4 => ?_) (fun c_4 => ?_)) | refine tt_ifeq (t := 16) (q := 7) hc dX9_plan_4 rfl rfl (fun c_4 => ?_) (fun c_4 => ?_)
  · refine tt_iconst (v := -1) (q := 17) hc rfl dX9_plan_16 rfl ?_
    refine tt_reti hX rfl dX9_plan_17 ?_
    first
    | (rw [if_neg (nand_l c_4)] at hQ; exact hQ μ frm.rf hM)
    | (rw [if_neg (nand_r c_13)] at hQ; exact hQ μ frm.rf hM)
  · refine tt_il2 (q := 8) hc dX9_plan_7 rfl ?_
    refine tt_iconst (v := nI 0) (q := 9) hc rfl dX9_plan_8 rfl ?_
    refine tt_iconst (v := nI 2) (q := 10) hc rfl dX9_plan_9 rfl ?_
    refine tt_cS3 (q := 13) (d' := 0) hc (by first | decide | omega) kmX9_in ml_X9_91 (Nat.le_of_ble_eq_true rfl) dX9_plan_10 rfl ?_
    refine c_X9_in ?_
    dsimp only [Option.toList, List.nil_append, List.cons_append]
    first | (with_reducible refine chkb ?_; refine tt_ifneB (t := 18) (q := 16) hc dX9_plan_13 rfl rfl (fun c_13 => ?_) (fun c_13 => ?_)) | (with_reducible refine chk1 ?_; refine tt_ifneN (t := 18) (q := 16) hc (by omega) dX9_plan_13 rfl rfl (fun c_13 => ?_) (fun c_13 => ?_)) | refine tt_ifne (t := 18) (q := 16) hc dX9_plan_13 rfl rfl (fun c_13 => ?_) (fun c_13 => ?_)
    · exact M c_4 c_13
    · refine tt_iconst (v := -1) (q := 17) hc rfl dX9_plan_16 rfl ?_
      refine tt_reti hX rfl dX9_plan_17 ?_
      first
      | (rw [if_neg (nand_l c_4)] at hQ; exact hQ μ frm.rf hM)
      | (rw [if_neg (nand_r c_13)] at hQ; exact hQ μ frm.rf hM)
