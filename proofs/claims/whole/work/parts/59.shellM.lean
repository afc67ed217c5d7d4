/-! THE MODEL: shelled -/
def agnN (xs : List Int32) (i : Nat) : Nat → Nat → Bool
  | 0, _ => false
  | n + 1, k => decide (xs.getD k 0 = xs.getD i 0) || agnN xs i n (k + 1)
theorem agnN_iff {xs : List Int32} {i : Nat} : ∀ n k, agnN xs i n k = true ↔ ∃ j, k ≤ j ∧ j < k + n ∧ xs.getD j 0 = xs.getD i 0
  | 0, k => by
    constructor
    · intro h
      cases h
    · rintro ⟨j, h1, h2, _⟩
      omega
  | n + 1, k => by
    rw [agnN, Bool.or_eq_true, agnN_iff n (k + 1), decide_eq_true_eq]
    constructor
    · rintro (h | ⟨j, h1, h2, h3⟩)
      · exact ⟨k, Nat.le_refl _, by omega, h⟩
      · exact ⟨j, by omega, by omega, h3⟩
    · rintro ⟨j, h1, h2, h3⟩
      by_cases e : j = k
      · subst e
        exact Or.inl h3
      · exact Or.inr ⟨j, by omega, by omega, h3⟩
set_option maxHeartbeats 1000000 in
theorem c_X9_isAgain {l : Launch} {t i : Nat} {xs : List Int32} {ls : Nat → Option (List Int32)} {μ : Mem} {Q : Option Value → Mem → Prop} (hL : ML μ ls) (ht : t < 4) (hx : ls t = some xs) (hi : i < xs.length) (hQ : Q (some (.int (bI (agnN xs i i 0)))) μ) : CC l 0 mX9_isAgain [.ref 24, .int (nI t), .int (nI i)] μ Q := by
  refine CC.of (M := mX9_isAgain) (by decide +kernel) rfl (fun v h => by simp at h; rcases h with rfl | rfl | rfl <;> rfl) (Nat.le_of_ble_eq_true rfl) (fun X hX => ?_)
  have hc := hX.cx
  have q74 := HQ74
  have a108 : HA (108 + t) 0 40 := ⟨by omega, sh_li, by decide⟩
  obtain ⟨x1, x2, x3⟩ := hL.so ht hx
  have L : ∀ (n k : Nat), k + n = i → Q (some (.int (bI (agnN xs i n k)))) μ → TT X 2 [.ref 24, .int (nI t), .int (nI i), .int (nI k)] [] μ := by
    intro n
    induction n with
    | zero =>
      intro k hk h
      refine tt_il3 (q := 3) hc dX9_isAgain_2 rfl ?_
      refine tt_il2 (q := 4) hc dX9_isAgain_3 rfl ?_
      first | (with_reducible refine chk2 ?_; refine tt_icgeN (t := 34) (q := 7) hc (by omega) (by omega) dX9_isAgain_4 rfl rfl (fun c_4 => ?_) (fun c_4 => ?_)) | refine tt_icge (t := 34) (q := 7) hc dX9_isAgain_4 rfl rfl (fun c_4 => ?_) (fun c_4 => ?_)
      · refine tt_iconst (v := nI 0) (q := 35) hc rfl dX9_isAgain_34 rfl ?_
        refine tt_retz hX rfl (by first | decide | exact bI_01 _) dX9_isAgain_35 ?_
        exact h
      · omega
    | succ n ih =>
      intro k hk h
      rw [agnN] at h
      refine tt_il3 (q := 3) hc dX9_isAgain_2 rfl ?_
      refine tt_il2 (q := 4) hc dX9_isAgain_3 rfl ?_
      first | (with_reducible refine chk2 ?_; refine tt_icgeN (t := 34) (q := 7) hc (by omega) (by omega) dX9_isAgain_4 rfl rfl (fun c_4 => ?_) (fun c_4 => ?_)) | refine tt_icge (t := 34) (q := 7) hc dX9_isAgain_4 rfl rfl (fun c_4 => ?_) (fun c_4 => ?_)
      · omega
      · refine tt_al0 (q := 8) hc dX9_isAgain_7 rfl ?_
        refine tt_getR (q := 11) hc fl_X9_79 (by first | assumption | exact ⟨by decide, _, rfl, rfl⟩) dX9_isAgain_8 rfl ?_
        refine tt_il1 (q := 12) hc dX9_isAgain_11 rfl ?_
        refine tt_aald (q := 13) hc (r := _) (by first | assumption | exact ⟨by decide, rfl, by decide⟩) (by decide) (by omega) dX9_isAgain_12 rfl ?_
        refine tt_il3 (q := 14) hc dX9_isAgain_13 rfl ?_
        refine tt_iald (q := 15) hc (by first | assumption | exact ⟨by decide, rfl, by decide⟩) (by omega) dX9_isAgain_14 rfl ?_
        rw [x3 k _ (getD_some (l := xs) (d := 0) (by omega))]
        refine tt_al0 (q := 16) hc dX9_isAgain_15 rfl ?_
        refine tt_getR (q := 19) hc fl_X9_79 (by first | assumption | exact ⟨by decide, _, rfl, rfl⟩) dX9_isAgain_16 rfl ?_
        refine tt_il1 (q := 20) hc dX9_isAgain_19 rfl ?_
        refine tt_aald (q := 21) hc (r := _) (by first | assumption | exact ⟨by decide, rfl, by decide⟩) (by decide) (by omega) dX9_isAgain_20 rfl ?_
        refine tt_il2 (q := 22) hc dX9_isAgain_21 rfl ?_
        refine tt_iald (q := 23) hc (by first | assumption | exact ⟨by decide, rfl, by decide⟩) (by omega) dX9_isAgain_22 rfl ?_
        rw [x3 i _ (getD_some (l := xs) (d := 0) (by omega))]
        first | (with_reducible refine chk2 ?_; refine tt_icneN (t := 28) (q := 26) hc (by omega) (by omega) dX9_isAgain_23 rfl rfl (fun c_23 => ?_) (fun c_23 => ?_)) | refine tt_icne (t := 28) (q := 26) hc dX9_isAgain_23 rfl rfl (fun c_23 => ?_) (fun c_23 => ?_)
        · first | refine tt_inc3 (q := 31) hc dX9_isAgain_28 rfl (by decide) (incN _) ?_ | refine tt_inc3 (q := 31) hc dX9_isAgain_28 rfl (by decide) rfl ?_
          refine tt_goto (t := 2) hc dX9_isAgain_31 rfl ?_
          rw [decide_eq_false c_23, Bool.false_or] at h
          exact ih (k + 1) (by omega) h
        · refine tt_iconst (v := nI 1) (q := 27) hc rfl dX9_isAgain_26 rfl ?_
          refine tt_retz hX rfl (by first | decide | exact bI_01 _) dX9_isAgain_27 ?_
          rw [decide_eq_true c_23, Bool.true_or] at h
          exact h
  refine tt_iconst (v := nI 0) (q := 1) hc rfl dX9_isAgain_0 rfl ?_
  refine tt_is3 (q := 2) hc dX9_isAgain_1 rfl (by decide) ?_
  exact L i 0 (by omega) hQ
theorem idx_bat {K : Nat} {B : HP} (hB : HOK K B) (x : Int32) : (∃ b, idx B x = some b ∧ bat (bl B) x = b ∧ 0 < b ∧ B b = true) ∨ (idx B x = none ∧ bat (bl B) x = 0) := by
  have htot := tot_le hB
  have hbl := bl_len hB
  unfold idx bat
  by_cases c : x < 0
  · rw [if_pos c, if_neg (fun z => absurd c (Int32.not_lt.mpr z.1))]
    exact Or.inr ⟨rfl, rfl⟩
  · obtain ⟨k, hk, rfl⟩ := nI_of c
    rw [if_neg c, nI_clamp hk]
    by_cases d : k < (bl B).length
    · rw [if_pos ⟨Int32.not_lt.mp c, nI_lt d (by omega)⟩, List.getElem?_eq_getElem d]
      have hm := (bl_mem hB).mp (List.getElem_mem d)
      refine Or.inl ⟨_, rfl, ?_, ?_, hm⟩
      · rw [List.getD_eq_getElem?_getD, List.getElem?_eq_getElem d]
        rfl
      · have := ((blF_mem B 255 1 _).mp (List.getElem_mem d)).1
        exact this
    · rw [if_neg (fun z => d ((nI_ltI hk (by omega)).mp z.2)), List.getElem?_eq_none (by omega)]
      exact Or.inr ⟨rfl, rfl⟩
def fJI (K : Nat) (bs : List Nat) (xs : List Int32) (body sh : Nat) : Nat → Nat → Bool → Bool
  | 0, _, b => b
  | n + 1, k, b => fJI K bs xs body sh n (k + 1) (b || (decide (pop (body &&& bat bs (xs.getD k 0)) = K - 1) && decide (sh ^^^ (sh &&& (body &&& bat bs (xs.getD k 0))) = 0)))
def ftO (K : Nat) (bs : List Nat) (xs : List Int32) (body p : Nat) : Nat → Nat → Bool
  | 0, _ => true
  | n + 1, i => fJI K bs xs body (body &&& bat bs (xs.getD i 0)) p 0 false && ftO K bs xs body p n (i + 1)
theorem bI_or (a b : Bool) : bI a ||| bI b = bI (a || b) := by cases a <;> cases b <;> rfl
set_option maxHeartbeats 2000000 in
theorem c_X9_isFit {l : Launch} {t p body : Nat} {xs : List Int32} {S : ST} {μ : Mem} {Q : Option Value → Mem → Prop} (hM : MR μ S) (ht : t < 4) (hx : S.2.2.2.2.2.1 t = some xs) (hp : p ≤ xs.length) (hbd : body < 256) (hv : ∀ k, k < p → ¬ bat (bl S.2.1) (xs.getD k 0) = 0) (hQ : Q (some (.int (bI (ftO S.1 (bl S.2.1) xs body p p 0)))) μ) : CC l 2 mX9_isFit [.ref 24, .int (nI body), .int (nI t), .int (nI p)] μ Q := by
  refine CC.of (M := mX9_isFit) (by decide +kernel) rfl (fun v h => by simp at h; rcases h with rfl | rfl | rfl | rfl <;> rfl) (Nat.le_of_ble_eq_true rfl) (fun X hX => ?_)
  have hc := hX.cx
  have hM0 := hM
  obtain ⟨K, B, hs, ks, im, ls, tx, pp⟩ := S
  obtain ⟨⟨a0, a1, a2⟩, -⟩ := id hM
  have a5 := hM.2.2.2.2.1
  dsimp only at hx hv hQ
  have q74 := HQ74
  have hK := a0.1
  have a108 : HA (108 + t) 0 40 := ⟨by omega, sh_li, by decide⟩
  obtain ⟨x1, x2, x3⟩ := a5.so ht hx
  have bt : ∀ k, k < p → onI (idx B (xs.getD k 0)) = nI (bat (bl B) (xs.getD k 0)) := by
    intro k hk
    rcases idx_bat a0 (xs.getD k 0) with ⟨b, e1, e2, _⟩ | ⟨_, e2⟩
    · rw [e1, e2]
      rfl
    · exact absurd e2 (hv k hk)
  have L2 : ∀ (i sh : Nat), i < p → sh < 256 → ∀ (n k : Nat) (b : Bool) (w8 : Value), k + n = p → ((fJI K (bl B) xs body sh n k b = true) → ∀ w7 w8, TT X 102 [.ref 24, .int (nI body), .int (nI t), .int (nI p), .int (nI i), .int (nI sh), .int (bI true), w7, w8] [] μ) → (fJI K (bl B) xs body sh n k b = false → Q (some (.int (nI 0))) μ) → TT X 32 [.ref 24, .int (nI body), .int (nI t), .int (nI p), .int (nI i), .int (nI sh), .int (bI b), .int (nI k), w8] [] μ := by
    intro i sh hi hsh n
    induction n with
    | zero =>
      intro k b w8 hk hT hF
      rw [fJI] at hT hF
      refine tt_il7 (q := 34) hc dX9_isFit_32 rfl ?_
      refine tt_il3 (q := 35) hc dX9_isFit_34 rfl ?_
      first | (with_reducible refine chk2 ?_; refine tt_icgeN (t := 95) (q := 38) hc (by omega) (by omega) dX9_isFit_35 rfl rfl (fun c_35 => ?_) (fun c_35 => ?_)) | refine tt_icge (t := 95) (q := 38) hc dX9_isFit_35 rfl rfl (fun c_35 => ?_) (fun c_35 => ?_)
      · refine tt_il6 (q := 97) hc dX9_isFit_95 rfl ?_
        first | (with_reducible refine chkb ?_; refine tt_ifneB (t := 102) (q := 100) hc dX9_isFit_97 rfl rfl (fun c_97 => ?_) (fun c_97 => ?_)) | (with_reducible refine chk1 ?_; refine tt_ifneN (t := 102) (q := 100) hc (by omega) dX9_isFit_97 rfl rfl (fun c_97 => ?_) (fun c_97 => ?_)) | refine tt_ifne (t := 102) (q := 100) hc dX9_isFit_97 rfl rfl (fun c_97 => ?_) (fun c_97 => ?_)
        · rw [c_97]
          exact hT c_97 _ _
        · refine tt_iconst (v := nI 0) (q := 101) hc rfl dX9_isFit_100 rfl ?_
          refine tt_retz hX rfl (by first | decide | exact bI_01 _) dX9_isFit_101 ?_
          exact hF c_97
      · omega
    | succ n ih =>
      intro k b w8 hk hT hF
      rw [fJI] at hT hF
      have hw := and_lt (a := body) (b := bat (bl B) (xs.getD k 0)) hbd
      have hwp := pop_le _ hw
      have hsw : sh ^^^ (sh &&& (body &&& bat (bl B) (xs.getD k 0))) < 256 := Nat.xor_lt_two_pow (n := 8) hsh (and_lt hsh)
      have E : ∀ (v : Int32) (c : Bool), v = bI c → c = (decide (pop (body &&& bat (bl B) (xs.getD k 0)) = K - 1) && decide (sh ^^^ (sh &&& (body &&& bat (bl B) (xs.getD k 0))) = 0)) → TT X 86 [.ref 24, .int (nI body), .int (nI t), .int (nI p), .int (nI i), .int (nI sh), .int (bI b), .int (nI k), .int (nI (body &&& bat (bl B) (xs.getD k 0)))] [.int v, .int (bI b)] μ := by
        intro v c hv hcc
        subst hv
        rw [← hcc] at hT hF
        refine tt_ior (q := 87) hc dX9_isFit_86 rfl ?_
        rw [bI_or]
        refine tt_is6 (q := 89) hc dX9_isFit_87 rfl (by decide) ?_
        first | refine tt_inc7 (q := 92) hc dX9_isFit_89 rfl (by decide) (incN _) ?_ | refine tt_inc7 (q := 92) hc dX9_isFit_89 rfl (by decide) rfl ?_
        refine tt_goto (t := 32) hc dX9_isFit_92 rfl ?_
        exact ih (k + 1) _ _ (by omega) hT hF
      refine tt_il7 (q := 34) hc dX9_isFit_32 rfl ?_
      refine tt_il3 (q := 35) hc dX9_isFit_34 rfl ?_
      first | (with_reducible refine chk2 ?_; refine tt_icgeN (t := 95) (q := 38) hc (by omega) (by omega) dX9_isFit_35 rfl rfl (fun c_35 => ?_) (fun c_35 => ?_)) | refine tt_icge (t := 95) (q := 38) hc dX9_isFit_35 rfl rfl (fun c_35 => ?_) (fun c_35 => ?_)
      · omega
      · refine tt_il1 (q := 39) hc dX9_isFit_38 rfl ?_
        refine tt_al0 (q := 40) hc dX9_isFit_39 rfl ?_
        refine tt_al0 (q := 41) hc dX9_isFit_40 rfl ?_
        refine tt_getR (q := 44) hc fl_X9_79 (by first | assumption | exact ⟨by decide, _, rfl, rfl⟩) dX9_isFit_41 rfl ?_
        refine tt_il2 (q := 45) hc dX9_isFit_44 rfl ?_
        refine tt_aald (q := 46) hc (r := _) (by first | assumption | exact ⟨by decide, rfl, by decide⟩) (by decide) (by omega) dX9_isFit_45 rfl ?_
        refine tt_il7 (q := 48) hc dX9_isFit_46 rfl ?_
        refine tt_iald (q := 49) hc (by first | assumption | exact ⟨by decide, rfl, by decide⟩) (by omega) dX9_isFit_48 rfl ?_
        rw [x3 k _ (getD_some (l := xs) (d := 0) (by omega))]
        refine tt_cV1 (q := 52) (d' := 1) (ci := 9) hc (by first | decide | omega) kmX9_bodyAt ml_X9_181 (by first | assumption | exact ⟨by decide, _, rfl⟩) rfl (Nat.le_of_ble_eq_true rfl) dX9_isFit_49 rfl ?_
        refine c_X9_bodyAt hM0 ?_
        dsimp only
        rw [bt k (by omega)]
        dsimp only [Option.toList, List.nil_append, List.cons_append]
        first | (with_reducible refine chk2 ?_; refine tt_iandN (q := 53) hc dX9_isFit_52 rfl ?_) | (with_reducible refine chkan ?_; refine tt_iandnN (q := 53) hc dX9_isFit_52 rfl ?_) | (with_reducible refine chkna ?_; refine tt_inandN (q := 53) hc dX9_isFit_52 rfl ?_) | refine tt_iand (q := 53) hc dX9_isFit_52 rfl ?_
        refine tt_is8 (q := 55) hc dX9_isFit_53 rfl (by decide) ?_
        refine tt_il6 (q := 57) hc dX9_isFit_55 rfl ?_
        refine tt_il8 (q := 59) hc dX9_isFit_57 rfl ?_
        refine tt_cS1 (q := 62) (d' := 1) hc (by first | decide | omega) kmX9_many ml_X9_110 (Nat.le_of_ble_eq_true rfl) dX9_isFit_59 rfl ?_
        refine c_X9_many ?_
        dsimp only [Option.toList, List.nil_append, List.cons_append]
        refine tt_al0 (q := 63) hc dX9_isFit_62 rfl ?_
        refine tt_getI (q := 66) hc fl_X9_9 (by first | assumption | exact ⟨by decide, _, rfl, _, rfl⟩) dX9_isFit_63 rfl ?_
        rw [a1]
        refine tt_iconst (v := nI 1) (q := 67) hc rfl dX9_isFit_66 rfl ?_
        first | (with_reducible refine chk2 ?_; refine tt_isubN (q := 68) hc (by omega) dX9_isFit_67 rfl ?_) | refine tt_isub (q := 68) hc dX9_isFit_67 rfl ?_
        first | (with_reducible refine chk2 ?_; refine tt_icneN (t := 85) (q := 71) hc (by omega) (by omega) dX9_isFit_68 rfl rfl (fun c_68 => ?_) (fun c_68 => ?_)) | refine tt_icne (t := 85) (q := 71) hc dX9_isFit_68 rfl rfl (fun c_68 => ?_) (fun c_68 => ?_)
        · refine tt_iconst (v := nI 0) (q := 86) hc rfl dX9_isFit_85 rfl ?_
          first
          | exact E _ true (bIt rfl) (by rw [decide_eq_true c_68, decide_eq_true c_78]; rfl)
          | (have z : ¬ pop (body &&& bat (bl B) (xs.getD k 0)) = K - 1 := c_68
             exact E _ false (bIf rfl) (by rw [decide_eq_false z, Bool.false_and]))
          | (have z : 0 < sh ^^^ (sh &&& (body &&& bat (bl B) (xs.getD k 0))) := c_78
             exact E _ false (bIf rfl) (by rw [decide_eq_false (Nat.ne_of_gt z), Bool.and_false]))
        · refine tt_il5 (q := 73) hc dX9_isFit_71 rfl ?_
          refine tt_il8 (q := 75) hc dX9_isFit_73 rfl ?_
          refine tt_iconst (v := -1) (q := 76) hc rfl dX9_isFit_75 rfl ?_
          first | (with_reducible refine chk2 ?_; refine tt_ixorN (q := 77) hc dX9_isFit_76 rfl ?_) | refine tt_ixor (q := 77) hc dX9_isFit_76 rfl ?_
          first | (with_reducible refine chk2 ?_; refine tt_iandN (q := 78) hc dX9_isFit_77 rfl ?_) | (with_reducible refine chkan ?_; refine tt_iandnN (q := 78) hc dX9_isFit_77 rfl ?_) | (with_reducible refine chkna ?_; refine tt_inandN (q := 78) hc dX9_isFit_77 rfl ?_) | refine tt_iand (q := 78) hc dX9_isFit_77 rfl ?_
          first | (with_reducible refine chkb ?_; refine tt_ifneB (t := 85) (q := 81) hc dX9_isFit_78 rfl rfl (fun c_78 => ?_) (fun c_78 => ?_)) | (with_reducible refine chk1 ?_; refine tt_ifneN (t := 85) (q := 81) hc (by omega) dX9_isFit_78 rfl rfl (fun c_78 => ?_) (fun c_78 => ?_)) | refine tt_ifne (t := 85) (q := 81) hc dX9_isFit_78 rfl rfl (fun c_78 => ?_) (fun c_78 => ?_)
          · refine tt_iconst (v := nI 0) (q := 86) hc rfl dX9_isFit_85 rfl ?_
            first
            | exact E _ true (bIt rfl) (by rw [decide_eq_true c_68, decide_eq_true c_78]; rfl)
            | (have z : ¬ pop (body &&& bat (bl B) (xs.getD k 0)) = K - 1 := c_68
               exact E _ false (bIf rfl) (by rw [decide_eq_false z, Bool.false_and]))
            | (have z : 0 < sh ^^^ (sh &&& (body &&& bat (bl B) (xs.getD k 0))) := c_78
               exact E _ false (bIf rfl) (by rw [decide_eq_false (Nat.ne_of_gt z), Bool.and_false]))
          · refine tt_iconst (v := nI 1) (q := 82) hc rfl dX9_isFit_81 rfl ?_
            refine tt_goto (t := 86) hc dX9_isFit_82 rfl ?_
            first
            | exact E _ true (bIt rfl) (by rw [decide_eq_true c_68, decide_eq_true c_78]; rfl)
            | (have z : ¬ pop (body &&& bat (bl B) (xs.getD k 0)) = K - 1 := c_68
               exact E _ false (bIf rfl) (by rw [decide_eq_false z, Bool.false_and]))
            | (have z : 0 < sh ^^^ (sh &&& (body &&& bat (bl B) (xs.getD k 0))) := c_78
               exact E _ false (bIf rfl) (by rw [decide_eq_false (Nat.ne_of_gt z), Bool.and_false]))
  have L1 : ∀ (n i : Nat) (w5 w6 w7 w8 : Value), i + n = p → Q (some (.int (bI (ftO K (bl B) xs body p n i)))) μ → TT X 3 [.ref 24, .int (nI body), .int (nI t), .int (nI p), .int (nI i), w5, w6, w7, w8] [] μ := by
    intro n
    induction n with
    | zero =>
      intro i w5 w6 w7 w8 hi h
      refine tt_il4 (q := 5) hc dX9_isFit_3 rfl ?_
      refine tt_il3 (q := 6) hc dX9_isFit_5 rfl ?_
      first | (with_reducible refine chk2 ?_; refine tt_icgeN (t := 108) (q := 9) hc (by omega) (by omega) dX9_isFit_6 rfl rfl (fun c_6 => ?_) (fun c_6 => ?_)) | refine tt_icge (t := 108) (q := 9) hc dX9_isFit_6 rfl rfl (fun c_6 => ?_) (fun c_6 => ?_)
      · refine tt_iconst (v := nI 1) (q := 109) hc rfl dX9_isFit_108 rfl ?_
        refine tt_retz hX rfl (by first | decide | exact bI_01 _) dX9_isFit_109 ?_
        exact h
      · omega
    | succ n ih =>
      intro i w5 w6 w7 w8 hi h
      rw [ftO] at h
      have hw := and_lt (a := body) (b := bat (bl B) (xs.getD i 0)) hbd
      refine tt_il4 (q := 5) hc dX9_isFit_3 rfl ?_
      refine tt_il3 (q := 6) hc dX9_isFit_5 rfl ?_
      first | (with_reducible refine chk2 ?_; refine tt_icgeN (t := 108) (q := 9) hc (by omega) (by omega) dX9_isFit_6 rfl rfl (fun c_6 => ?_) (fun c_6 => ?_)) | refine tt_icge (t := 108) (q := 9) hc dX9_isFit_6 rfl rfl (fun c_6 => ?_) (fun c_6 => ?_)
      · omega
      · refine tt_il1 (q := 10) hc dX9_isFit_9 rfl ?_
        refine tt_al0 (q := 11) hc dX9_isFit_10 rfl ?_
        refine tt_al0 (q := 12) hc dX9_isFit_11 rfl ?_
        refine tt_getR (q := 15) hc fl_X9_79 (by first | assumption | exact ⟨by decide, _, rfl, rfl⟩) dX9_isFit_12 rfl ?_
        refine tt_il2 (q := 16) hc dX9_isFit_15 rfl ?_
        refine tt_aald (q := 17) hc (r := _) (by first | assumption | exact ⟨by decide, rfl, by decide⟩) (by decide) (by omega) dX9_isFit_16 rfl ?_
        refine tt_il4 (q := 19) hc dX9_isFit_17 rfl ?_
        refine tt_iald (q := 20) hc (by first | assumption | exact ⟨by decide, rfl, by decide⟩) (by omega) dX9_isFit_19 rfl ?_
        rw [x3 i _ (getD_some (l := xs) (d := 0) (by omega))]
        refine tt_cV1 (q := 23) (d' := 1) (ci := 9) hc (by first | decide | omega) kmX9_bodyAt ml_X9_181 (by first | assumption | exact ⟨by decide, _, rfl⟩) rfl (Nat.le_of_ble_eq_true rfl) dX9_isFit_20 rfl ?_
        refine c_X9_bodyAt hM0 ?_
        dsimp only
        rw [bt i (by omega)]
        dsimp only [Option.toList, List.nil_append, List.cons_append]
        first | (with_reducible refine chk2 ?_; refine tt_iandN (q := 24) hc dX9_isFit_23 rfl ?_) | (with_reducible refine chkan ?_; refine tt_iandnN (q := 24) hc dX9_isFit_23 rfl ?_) | (with_reducible refine chkna ?_; refine tt_inandN (q := 24) hc dX9_isFit_23 rfl ?_) | refine tt_iand (q := 24) hc dX9_isFit_23 rfl ?_
        refine tt_is5 (q := 26) hc dX9_isFit_24 rfl (by decide) ?_
        refine tt_iconst (v := nI 0) (q := 27) hc rfl dX9_isFit_26 rfl ?_
        refine tt_is6 (q := 29) hc dX9_isFit_27 rfl (by decide) ?_
        refine tt_iconst (v := nI 0) (q := 30) hc rfl dX9_isFit_29 rfl ?_
        refine tt_is7 (q := 32) hc dX9_isFit_30 rfl (by decide) ?_
        refine L2 i _ (by omega) hw p 0 false _ (by omega) (fun e w7 w8 => ?_) (fun e => by rw [e, Bool.false_and] at h; exact h)
        rw [e, Bool.true_and] at h
        refine tt_inc4 (q := 105) hc dX9_isFit_102 rfl (by decide) (incN _) ?_
        refine tt_goto (t := 3) hc dX9_isFit_105 rfl ?_
        exact ih (i + 1) _ _ _ _ (by omega) h
  refine tt_iconst (v := nI 0) (q := 1) hc rfl dX9_isFit_0 rfl ?_
  refine tt_is4 (q := 3) hc dX9_isFit_1 rfl (by decide) ?_
  exact L1 p 0 _ _ _ _ (by omega) hQ
/-! what both tests of fitting say -/
theorem fJI_iff {K : Nat} {bs : List Nat} {xs : List Int32} {body sh : Nat} : ∀ n k b, fJI K bs xs body sh n k b = true ↔ b = true ∨ ∃ j, k ≤ j ∧ j < k + n ∧ pop (body &&& bat bs (xs.getD j 0)) = K - 1 ∧ sh ^^^ (sh &&& (body &&& bat bs (xs.getD j 0))) = 0
  | 0, k, b => by
    rw [fJI]
    constructor
    · exact Or.inl
    · rintro (h | ⟨j, h1, h2, _⟩)
      · exact h
      · omega
  | n + 1, k, b => by
    rw [fJI, fJI_iff n (k + 1), Bool.or_eq_true, Bool.and_eq_true, decide_eq_true_eq, decide_eq_true_eq]
    constructor
    · rintro ((h | ⟨h1, h2⟩) | ⟨j, h1, h2, h3⟩)
      · exact Or.inl h
      · exact Or.inr ⟨k, Nat.le_refl _, by omega, h1, h2⟩
      · exact Or.inr ⟨j, by omega, by omega, h3⟩
    · rintro (h | ⟨j, h1, h2, h3, h4⟩)
      · exact Or.inl (Or.inl h)
      · by_cases e : j = k
        · subst e
          exact Or.inl (Or.inr ⟨h3, h4⟩)
        · exact Or.inr ⟨j, by omega, by omega, h3, h4⟩
theorem ftO_iff {K : Nat} {bs : List Nat} {xs : List Int32} {body p : Nat} : ∀ n i, ftO K bs xs body p n i = true ↔ ∀ m, i ≤ m → m < i + n → fJI K bs xs body (body &&& bat bs (xs.getD m 0)) p 0 false = true
  | 0, i => by
    constructor
    · intro _ m h1 h2
      omega
    · intro _
      rfl
  | n + 1, i => by
    rw [ftO, Bool.and_eq_true, ftO_iff n (i + 1)]
    constructor
    · rintro ⟨h1, h2⟩ m h3 h4
      by_cases e : m = i
      · subst e
        exact h1
      · exact h2 m (by omega) (by omega)
    · intro h
      exact ⟨h i (Nat.le_refl _) (by omega), fun m h1 h2 => h m (by omega) (by omega)⟩
theorem fitN_iff {bs : List Nat} {xs : List Int32} {body lo : Nat} : ∀ n i, fitN bs xs body lo n i = true ↔ ∀ m, i ≤ m → m < i + n → ¬ alo body (bat bs (xs.getD m 0)) &&& lo = 0
  | 0, i => by
    constructor
    · intro _ m h1 h2
      omega
    · intro _
      rfl
  | n + 1, i => by
    rw [fitN, Bool.and_eq_true, fitN_iff n (i + 1), Bool.not_eq_true', decide_eq_false_iff_not]
    constructor
    · rintro ⟨h1, h2⟩ m h3 h4
      by_cases e : m = i
      · subst e
        exact h1
      · exact h2 m (by omega) (by omega)
    · intro h
      exact ⟨h i (Nat.le_refl _) (by omega), fun m h1 h2 => h m (by omega) (by omega)⟩
theorem lofN_bit {bs : List Nat} {xs : List Int32} {body q : Nat} : ∀ n i lo, (lofN bs xs body n i lo).testBit q = true ↔ lo.testBit q = true ∨ ∃ k, i ≤ k ∧ k < i + n ∧ pop (alo body (bat bs (xs.getD k 0))) = 1 ∧ (alo body (bat bs (xs.getD k 0))).testBit q = true
  | 0, i, lo => by
    rw [lofN]
    constructor
    · exact Or.inl
    · rintro (h | ⟨j, h1, h2, _⟩)
      · exact h
      · omega
  | n + 1, i, lo => by
    rw [lofN, lofN_bit n (i + 1)]
    constructor
    · rintro (h | ⟨k, h1, h2, h3⟩)
      · split at h
        · rename_i c
          rw [Nat.testBit_or, Bool.or_eq_true] at h
          rcases h with h | h
          · exact Or.inl h
          · exact Or.inr ⟨i, Nat.le_refl _, by omega, c, h⟩
        · exact Or.inl h
      · exact Or.inr ⟨k, by omega, by omega, h3⟩
    · rintro (h | ⟨k, h1, h2, h3, h4⟩)
      · left
        split
        · rw [Nat.testBit_or, h]
          rfl
        · exact h
      · by_cases e : k = i
        · subst e
          left
          rw [if_pos h3, Nat.testBit_or, h4, Bool.or_true]
        · exact Or.inr ⟨k, by omega, by omega, h3, h4⟩
theorem pop1B : ∀ x, x < 256 → pop x = 1 → ∀ q, q < 8 → (x / 2 ^ q) &&& 1 = 1 → x = 2 ^ q := by decide +kernel
theorem alo_bit {a b q : Nat} : (alo a b).testBit q = (a.testBit q && !b.testBit q) := by
  unfold alo
  rw [Nat.testBit_xor, Nat.testBit_and]
  cases a.testBit q <;> simp
theorem alo_pop {a b : Nat} (ha : a < 256) : pop (a &&& b) + pop (alo a b) = pop a := by
  have h0 : (a &&& b) &&& alo a b = 0 := dis_bits.mpr (fun q hq => by
    rw [Nat.testBit_and, Bool.and_eq_true] at hq
    rw [alo_bit, hq.2]
    simp)
  have h1 := pop_or _ (and_lt (b := b) ha) _ (alo_lt (b := b) ha) h0
  have h2 : (a &&& b) ||| alo a b = a := by
    apply Nat.eq_of_testBit_eq
    intro q
    rw [Nat.testBit_or, Nat.testBit_and, alo_bit]
    cases a.testBit q <;> cases b.testBit q <;> rfl
  rw [h2] at h1
  exact h1.symm
theorem xor0 {a b : Nat} : a ^^^ (a &&& b) = 0 ↔ ∀ q, a.testBit q = true → b.testBit q = true := by
  constructor
  · intro h q hq
    have := congrArg (fun z => Nat.testBit z q) h
    simp only [Nat.testBit_xor, Nat.testBit_and, hq, Bool.true_and, Nat.zero_testBit] at this
    simpa using this
  · intro h
    apply Nat.eq_of_testBit_eq
    intro q
    rw [Nat.testBit_xor, Nat.testBit_and, Nat.zero_testBit]
    cases e : a.testBit q
    · rfl
    · rw [h q e]
      rfl
theorem fit_same {K : Nat} {bs : List Nat} {xs : List Int32} {body p : Nat} (hK : K = 3 ∨ K = 4) (hb : body < 256) (hpb : pop body = K) : fitN bs xs body (lofN bs xs body p 0 0) p 0 = ftO K bs xs body p p 0 := by
  rw [Bool.eq_iff_iff, fitN_iff, ftO_iff]
  have key : ∀ m, ¬ (alo body (bat bs (xs.getD m 0)) &&& lofN bs xs body p 0 0 = 0) ↔ fJI K bs xs body (body &&& bat bs (xs.getD m 0)) p 0 false = true := by
    intro m
    rw [fJI_iff]
    simp only [Bool.false_eq_true, false_or]
    constructor
    · intro h
      have hx : ∃ q, (alo body (bat bs (xs.getD m 0))).testBit q = true ∧ (lofN bs xs body p 0 0).testBit q = true := by
        apply Classical.byContradiction
        intro hno
        apply h
        refine dis_bits.mpr (fun q hq => ?_)
        cases e : (lofN bs xs body p 0 0).testBit q
        · rfl
        · exact absurd ⟨q, hq, e⟩ hno
      obtain ⟨q, h1, h2⟩ := hx
      rcases (lofN_bit p 0 0).mp h2 with z | ⟨k, k1, k2, k3, k4⟩
      · rw [Nat.zero_testBit] at z
        cases z
      · have ha := alo_pop (b := bat bs (xs.getD k 0)) hb
        refine ⟨k, k1, k2, by omega, xor0.mpr (fun i hi => ?_)⟩
        rw [Nat.testBit_and, Bool.and_eq_true] at hi
        rw [Nat.testBit_and, hi.1, Bool.true_and]
        cases e : (bat bs (xs.getD k 0)).testBit i
        · exfalso
          have h8 := bit_lt8 hb hi.1
          have hal := alo_lt (b := bat bs (xs.getD k 0)) hb
          have g1 : (alo body (bat bs (xs.getD k 0))).testBit i = true := by rw [alo_bit, hi.1, e]; rfl
          have q8 := bit_lt8 hal k4
          have f1 := pop1B _ hal k3 q q8 (bit_cut.mpr k4)
          rw [f1, Nat.testBit_two_pow] at g1
          have e2 : q = i := of_decide_eq_true g1
          rw [alo_bit, Bool.and_eq_true] at h1
          rw [e2, hi.2] at h1
          exact absurd h1.2 (by decide)
        · rfl
    · rintro ⟨k, k1, k2, k3, k4⟩ h
      have ha := alo_pop (b := bat bs (xs.getD k 0)) hb
      have hal := alo_lt (b := bat bs (xs.getD k 0)) hb
      have hp1 : pop (alo body (bat bs (xs.getD k 0))) = 1 := by omega
      have hne : ¬ alo body (bat bs (xs.getD k 0)) = 0 := fun e => by
        rw [e] at hp1
        exact absurd hp1 (by decide)
      have hx : ∃ q, (alo body (bat bs (xs.getD k 0))).testBit q = true := by
        apply Classical.byContradiction
        intro hno
        apply hne
        apply Nat.eq_of_testBit_eq
        intro q
        rw [Nat.zero_testBit]
        cases e : (alo body (bat bs (xs.getD k 0))).testBit q
        · rfl
        · exact absurd ⟨q, e⟩ hno
      obtain ⟨q, hq⟩ := hx
      have hlo := (lofN_bit (bs := bs) (xs := xs) (body := body) (q := q) p 0 0).mpr (Or.inr ⟨k, k1, k2, hp1, hq⟩)
      have k4 := xor0.mp k4 q
      have hq2 := hq
      rw [alo_bit, Bool.and_eq_true] at hq2
      have hA : (alo body (bat bs (xs.getD m 0))).testBit q = true := by
        rw [alo_bit, hq2.1, Bool.true_and]
        cases e : (bat bs (xs.getD m 0)).testBit q
        · rfl
        · have := k4 (by rw [Nat.testBit_and, hq2.1, e]; rfl)
          rw [Nat.testBit_and, hq2.1, Bool.true_and] at this
          rw [this] at hq2
          exact absurd hq2.2 (by decide)
      rw [dis_bits.mp h q hA] at hlo
      cases hlo
  constructor
  · intro h m h1 h2
    exact (key m).mp (h m h1 h2)
  · intro h m h1 h2
    exact (key m).mpr (h m h1 h2)
/-- a body told a second time doesn't fit -/
theorem fit_again {bs : List Nat} {xs : List Int32} {p : Nat} (h : agnN xs p p 0 = true) : fitB bs xs p = false := by
  obtain ⟨j, h1, h2, h3⟩ := (agnN_iff p 0).mp h
  unfold fitB
  cases e : fitN bs xs (bat bs (xs.getD p 0)) (lofN bs xs (bat bs (xs.getD p 0)) p 0 0) p 0
  · rw [Bool.and_false]
  · have := (fitN_iff p 0).mp e j h1 h2
    rw [h3] at this
    have h0 : alo (bat bs (xs.getD p 0)) (bat bs (xs.getD p 0)) = 0 := by
      unfold alo
      rw [Nat.and_self, Nat.xor_self]
    rw [h0, Nat.zero_and] at this
    exact absurd rfl this
set_option maxHeartbeats 2000000 in
theorem c_X9_shelled {l : Launch} {v : Int32} {S : ST} {μ : Mem} {Q : Option Value → Mem → Prop} (hM : MR μ S) (hQ : ∀ μ', frm mL μ μ' → MR μ' S → Q (some (.int (an_shelled v S))) μ') : CC l 3 mX9_shelled [.ref 24, .int v] μ Q := by
  refine CC.of (M := mX9_shelled) (by decide +kernel) rfl (fun v h => by simp at h; rcases h with rfl | rfl <;> rfl) (Nat.le_of_ble_eq_true rfl) (fun X hX => ?_)
  have hc := hX.cx
  have hM0 := hM
  obtain ⟨K, B, hs, ks, im, ls, tx, pp⟩ := S
  obtain ⟨⟨a0, a1, a2⟩, -⟩ := id hM
  have a5 := hM.2.2.2.2.1
  have q74 := HQ74
  have a73 := HA73
  have htot := tot_le a0
  have hbl := bl_len a0
  have hQ := hQ μ frm.rf hM
  rw [an_shelled] at hQ
  rcases lst_cases ls v with ⟨hin, -⟩ | ⟨t, ht, rfl, hin, hls, -⟩ | ⟨t, xs, ht, rfl, hin, hls, -⟩
  · rw [if_neg (by rw [hin]; exact Bool.false_ne_true)] at hQ
    refine tt_il1 (q := 1) hc dX9_shelled_0 rfl ?_
    refine tt_cS1 (q := 4) (d' := 1) hc (by first | decide | omega) kmX9_isList ml_X9_336 (Nat.le_of_ble_eq_true rfl) dX9_shelled_1 rfl ?_
    refine c_X9_isList ?_
    rw [hin]
    dsimp only [Option.toList, List.nil_append, List.cons_append]
    first | (with_reducible refine chkb ?_; refine tt_ifneB (t := 9) (q := 7) hc dX9_shelled_4 rfl rfl (fun c_4 => ?_) (fun c_4 => ?_)) | (with_reducible refine chk1 ?_; refine tt_ifneN (t := 9) (q := 7) hc (by omega) dX9_shelled_4 rfl rfl (fun c_4 => ?_) (fun c_4 => ?_)) | refine tt_ifne (t := 9) (q := 7) hc dX9_shelled_4 rfl rfl (fun c_4 => ?_) (fun c_4 => ?_)
    · cases c_4
    · refine tt_iconst (v := -1) (q := 8) hc rfl dX9_shelled_7 rfl ?_
      refine tt_reti hX rfl dX9_shelled_8 ?_
      exact hQ
  · rw [if_pos hin, nI_clamp (by omega), hls] at hQ
    have e := a5.no ht hls
    refine tt_il1 (q := 1) hc dX9_shelled_0 rfl ?_
    refine tt_cS1 (q := 4) (d' := 1) hc (by first | decide | omega) kmX9_isList ml_X9_336 (Nat.le_of_ble_eq_true rfl) dX9_shelled_1 rfl ?_
    refine c_X9_isList ?_
    rw [hin]
    dsimp only [Option.toList, List.nil_append, List.cons_append]
    first | (with_reducible refine chkb ?_; refine tt_ifneB (t := 9) (q := 7) hc dX9_shelled_4 rfl rfl (fun c_4 => ?_) (fun c_4 => ?_)) | (with_reducible refine chk1 ?_; refine tt_ifneN (t := 9) (q := 7) hc (by omega) dX9_shelled_4 rfl rfl (fun c_4 => ?_) (fun c_4 => ?_)) | refine tt_ifne (t := 9) (q := 7) hc dX9_shelled_4 rfl rfl (fun c_4 => ?_) (fun c_4 => ?_)
    · refine tt_al0 (q := 10) hc dX9_shelled_9 rfl ?_
      refine tt_getR (q := 13) hc fl_X9_76 (by first | assumption | exact ⟨by decide, _, rfl, rfl⟩) dX9_shelled_10 rfl ?_
      refine tt_il1 (q := 14) hc dX9_shelled_13 rfl ?_
      refine tt_iald (q := 15) hc (by first | assumption | exact ⟨by decide, rfl, by decide⟩) (by omega) dX9_shelled_14 rfl ?_
      rw [e]
      refine tt_ifge (t := 21) (q := 18) hc dX9_shelled_15 rfl rfl (fun c_15 => ?_) (fun c_15 => ?_)
      · exact absurd c_15 (by decide)
      · refine tt_bipush (v := -11) (q := 20) hc (by decide) dX9_shelled_18 rfl ?_
        refine tt_reti hX rfl dX9_shelled_20 ?_
        exact hQ
    · cases c_4
  · rw [if_pos hin, nI_clamp (by omega), hls] at hQ
    dsimp only at hQ
    obtain ⟨x1, x2, x3⟩ := a5.so ht hls
    have a108 : HA (108 + t) 0 40 := ⟨by omega, sh_li, by decide⟩
    have L : ∀ (n i : Nat) (w3 : Value), i + n = xs.length → (∀ k, k < i → ¬ bat (bl B) (xs.getD k 0) = 0) → Q (some (.int (onI (shl (bl B) xs n i)))) μ → TT X 23 [.ref 24, .int (nI t), .int (nI i), w3] [] μ := by
      intro n
      induction n with
      | zero =>
        intro i w3 hi hv h
        refine tt_il2 (q := 24) hc dX9_shelled_23 rfl ?_
        refine tt_al0 (q := 25) hc dX9_shelled_24 rfl ?_
        refine tt_getR (q := 28) hc fl_X9_76 (by first | assumption | exact ⟨by decide, _, rfl, rfl⟩) dX9_shelled_25 rfl ?_
        refine tt_il1 (q := 29) hc dX9_shelled_28 rfl ?_
        refine tt_iald (q := 30) hc (by first | assumption | exact ⟨by decide, rfl, by decide⟩) (by omega) dX9_shelled_29 rfl ?_
        rw [x2]
        first | (with_reducible refine chk2 ?_; refine tt_icgeN (t := 77) (q := 33) hc (by omega) (by omega) dX9_shelled_30 rfl rfl (fun c_30 => ?_) (fun c_30 => ?_)) | refine tt_icge (t := 77) (q := 33) hc dX9_shelled_30 rfl rfl (fun c_30 => ?_) (fun c_30 => ?_)
        · refine tt_bipush (v := -5) (q := 79) hc (by decide) dX9_shelled_77 rfl ?_
          refine tt_reti hX rfl dX9_shelled_79 ?_
          exact h
        · omega
      | succ n ih =>
        intro i w3 hi hv h
        rw [shl] at h
        rcases idx_bat a0 (xs.getD i 0) with ⟨b, e1, e2, e3, e4⟩ | ⟨e1, e2⟩
        · have hbo := a0.2 b e4
          have hfs := fit_same (bs := bl B) (xs := xs) (p := i) a0.1 hbo.1 hbo.2
          have hfb : fitB (bl B) xs i = ftO K (bl B) xs b i i 0 := by
            unfold fitB
            rw [e2, hfs, decide_eq_false (by omega)]
            rfl
          have hag := fit_again (bs := bl B) (xs := xs) (p := i)
          refine tt_il2 (q := 24) hc dX9_shelled_23 rfl ?_
          refine tt_al0 (q := 25) hc dX9_shelled_24 rfl ?_
          refine tt_getR (q := 28) hc fl_X9_76 (by first | assumption | exact ⟨by decide, _, rfl, rfl⟩) dX9_shelled_25 rfl ?_
          refine tt_il1 (q := 29) hc dX9_shelled_28 rfl ?_
          refine tt_iald (q := 30) hc (by first | assumption | exact ⟨by decide, rfl, by decide⟩) (by omega) dX9_shelled_29 rfl ?_
          rw [x2]
          first | (with_reducible refine chk2 ?_; refine tt_icgeN (t := 77) (q := 33) hc (by omega) (by omega) dX9_shelled_30 rfl rfl (fun c_30 => ?_) (fun c_30 => ?_)) | refine tt_icge (t := 77) (q := 33) hc dX9_shelled_30 rfl rfl (fun c_30 => ?_) (fun c_30 => ?_)
          · omega
          · refine tt_al0 (q := 34) hc dX9_shelled_33 rfl ?_
            refine tt_al0 (q := 35) hc dX9_shelled_34 rfl ?_
            refine tt_getR (q := 38) hc fl_X9_79 (by first | assumption | exact ⟨by decide, _, rfl, rfl⟩) dX9_shelled_35 rfl ?_
            refine tt_il1 (q := 39) hc dX9_shelled_38 rfl ?_
            refine tt_aald (q := 40) hc (r := _) (by first | assumption | exact ⟨by decide, rfl, by decide⟩) (by decide) (by omega) dX9_shelled_39 rfl ?_
            refine tt_il2 (q := 41) hc dX9_shelled_40 rfl ?_
            refine tt_iald (q := 42) hc (by first | assumption | exact ⟨by decide, rfl, by decide⟩) (by omega) dX9_shelled_41 rfl ?_
            rw [x3 i _ (getD_some (l := xs) (d := 0) (by omega))]
            refine tt_cV1 (q := 45) (d' := 1) (ci := 9) hc (by first | decide | omega) kmX9_bodyAt ml_X9_181 (by first | assumption | exact ⟨by decide, _, rfl⟩) rfl (Nat.le_of_ble_eq_true rfl) dX9_shelled_42 rfl ?_
            refine c_X9_bodyAt hM0 ?_
            dsimp only
            rw [e1, show onI (some b) = nI b from rfl]
            dsimp only [Option.toList, List.nil_append, List.cons_append]
            refine tt_is3 (q := 46) hc dX9_shelled_45 rfl (by decide) ?_
            refine tt_il3 (q := 47) hc dX9_shelled_46 rfl ?_
            refine tt_ifltN (t := 69) (q := 50) hc (by omega) dX9_shelled_47 rfl rfl ?_
            refine tt_al0 (q := 51) hc dX9_shelled_50 rfl ?_
            refine tt_il1 (q := 52) hc dX9_shelled_51 rfl ?_
            refine tt_il2 (q := 53) hc dX9_shelled_52 rfl ?_
            refine tt_cV2 (q := 56) (d' := 0) (ci := 9) hc (by first | decide | omega) kmX9_isAgain ml_X9_339 (by first | assumption | exact ⟨by decide, _, rfl⟩) rfl (Nat.le_of_ble_eq_true rfl) dX9_shelled_53 rfl ?_
            refine c_X9_isAgain a5 ht hls (by omega) ?_
            dsimp only [Option.toList, List.nil_append, List.cons_append]
            first | (with_reducible refine chkb ?_; refine tt_ifneB (t := 69) (q := 59) hc dX9_shelled_56 rfl rfl (fun c_56 => ?_) (fun c_56 => ?_)) | (with_reducible refine chk1 ?_; refine tt_ifneN (t := 69) (q := 59) hc (by omega) dX9_shelled_56 rfl rfl (fun c_56 => ?_) (fun c_56 => ?_)) | refine tt_ifne (t := 69) (q := 59) hc dX9_shelled_56 rfl rfl (fun c_56 => ?_) (fun c_56 => ?_)
            · refine tt_il2 (q := 70) hc dX9_shelled_69 rfl ?_
              refine tt_reti hX rfl dX9_shelled_70 ?_
              first
              | (rw [hag c_56, if_neg Bool.false_ne_true] at h
                 exact h)
              | (rw [hfb, c_66, if_neg Bool.false_ne_true] at h
                 exact h)
            · refine tt_al0 (q := 60) hc dX9_shelled_59 rfl ?_
              refine tt_il3 (q := 61) hc dX9_shelled_60 rfl ?_
              refine tt_il1 (q := 62) hc dX9_shelled_61 rfl ?_
              refine tt_il2 (q := 63) hc dX9_shelled_62 rfl ?_
              refine tt_cV3 (q := 66) (d' := 2) (ci := 9) hc (by first | decide | omega) kmX9_isFit ml_X9_342 (by first | assumption | exact ⟨by decide, _, rfl⟩) rfl (Nat.le_of_ble_eq_true rfl) dX9_shelled_63 rfl ?_
              refine c_X9_isFit hM0 ht hls (by omega) hbo.1 hv ?_
              dsimp only
              dsimp only [Option.toList, List.nil_append, List.cons_append]
              first | (with_reducible refine chkb ?_; refine tt_ifneB (t := 71) (q := 69) hc dX9_shelled_66 rfl rfl (fun c_66 => ?_) (fun c_66 => ?_)) | (with_reducible refine chk1 ?_; refine tt_ifneN (t := 71) (q := 69) hc (by omega) dX9_shelled_66 rfl rfl (fun c_66 => ?_) (fun c_66 => ?_)) | refine tt_ifne (t := 71) (q := 69) hc dX9_shelled_66 rfl rfl (fun c_66 => ?_) (fun c_66 => ?_)
              · first | refine tt_inc2 (q := 74) hc dX9_shelled_71 rfl (by decide) (incN _) ?_ | refine tt_inc2 (q := 74) hc dX9_shelled_71 rfl (by decide) rfl ?_
                refine tt_goto (t := 23) hc dX9_shelled_74 rfl ?_
                rw [hfb, c_66, if_pos rfl] at h
                refine ih (i + 1) _ (by omega) (fun k hk => ?_) h
                rcases Nat.lt_or_eq_of_le (Nat.le_of_lt_succ hk) with z | z
                · exact hv k z
                · rw [z, e2]
                  omega
              · refine tt_il2 (q := 70) hc dX9_shelled_69 rfl ?_
                refine tt_reti hX rfl dX9_shelled_70 ?_
                first
                | (rw [hag c_56, if_neg Bool.false_ne_true] at h
                   exact h)
                | (rw [hfb, c_66, if_neg Bool.false_ne_true] at h
                   exact h)
        · have hfb : fitB (bl B) xs i = false := by
            unfold fitB
            rw [e2]
            rfl
          rw [hfb, if_neg Bool.false_ne_true] at h
          refine tt_il2 (q := 24) hc dX9_shelled_23 rfl ?_
          refine tt_al0 (q := 25) hc dX9_shelled_24 rfl ?_
          refine tt_getR (q := 28) hc fl_X9_76 (by first | assumption | exact ⟨by decide, _, rfl, rfl⟩) dX9_shelled_25 rfl ?_
          refine tt_il1 (q := 29) hc dX9_shelled_28 rfl ?_
          refine tt_iald (q := 30) hc (by first | assumption | exact ⟨by decide, rfl, by decide⟩) (by omega) dX9_shelled_29 rfl ?_
          rw [x2]
          first | (with_reducible refine chk2 ?_; refine tt_icgeN (t := 77) (q := 33) hc (by omega) (by omega) dX9_shelled_30 rfl rfl (fun c_30 => ?_) (fun c_30 => ?_)) | refine tt_icge (t := 77) (q := 33) hc dX9_shelled_30 rfl rfl (fun c_30 => ?_) (fun c_30 => ?_)
          · omega
          · refine tt_al0 (q := 34) hc dX9_shelled_33 rfl ?_
            refine tt_al0 (q := 35) hc dX9_shelled_34 rfl ?_
            refine tt_getR (q := 38) hc fl_X9_79 (by first | assumption | exact ⟨by decide, _, rfl, rfl⟩) dX9_shelled_35 rfl ?_
            refine tt_il1 (q := 39) hc dX9_shelled_38 rfl ?_
            refine tt_aald (q := 40) hc (r := _) (by first | assumption | exact ⟨by decide, rfl, by decide⟩) (by decide) (by omega) dX9_shelled_39 rfl ?_
            refine tt_il2 (q := 41) hc dX9_shelled_40 rfl ?_
            refine tt_iald (q := 42) hc (by first | assumption | exact ⟨by decide, rfl, by decide⟩) (by omega) dX9_shelled_41 rfl ?_
            rw [x3 i _ (getD_some (l := xs) (d := 0) (by omega))]
            refine tt_cV1 (q := 45) (d' := 1) (ci := 9) hc (by first | decide | omega) kmX9_bodyAt ml_X9_181 (by first | assumption | exact ⟨by decide, _, rfl⟩) rfl (Nat.le_of_ble_eq_true rfl) dX9_shelled_42 rfl ?_
            refine c_X9_bodyAt hM0 ?_
            dsimp only
            rw [e1]
            dsimp only [Option.toList, List.nil_append, List.cons_append]
            refine tt_is3 (q := 46) hc dX9_shelled_45 rfl (by decide) ?_
            refine tt_il3 (q := 47) hc dX9_shelled_46 rfl ?_
            refine tt_iflt (t := 69) (q := 50) hc dX9_shelled_47 rfl rfl (fun c_47 => ?_) (fun c_47 => ?_)
            · refine tt_il2 (q := 70) hc dX9_shelled_69 rfl ?_
              refine tt_reti hX rfl dX9_shelled_70 ?_
              exact h
            · exact absurd (by decide) c_47
    refine tt_il1 (q := 1) hc dX9_shelled_0 rfl ?_
    refine tt_cS1 (q := 4) (d' := 1) hc (by first | decide | omega) kmX9_isList ml_X9_336 (Nat.le_of_ble_eq_true rfl) dX9_shelled_1 rfl ?_
    refine c_X9_isList ?_
    rw [hin]
    dsimp only [Option.toList, List.nil_append, List.cons_append]
    first | (with_reducible refine chkb ?_; refine tt_ifneB (t := 9) (q := 7) hc dX9_shelled_4 rfl rfl (fun c_4 => ?_) (fun c_4 => ?_)) | (with_reducible refine chk1 ?_; refine tt_ifneN (t := 9) (q := 7) hc (by omega) dX9_shelled_4 rfl rfl (fun c_4 => ?_) (fun c_4 => ?_)) | refine tt_ifne (t := 9) (q := 7) hc dX9_shelled_4 rfl rfl (fun c_4 => ?_) (fun c_4 => ?_)
    · refine tt_al0 (q := 10) hc dX9_shelled_9 rfl ?_
      refine tt_getR (q := 13) hc fl_X9_76 (by first | assumption | exact ⟨by decide, _, rfl, rfl⟩) dX9_shelled_10 rfl ?_
      refine tt_il1 (q := 14) hc dX9_shelled_13 rfl ?_
      refine tt_iald (q := 15) hc (by first | assumption | exact ⟨by decide, rfl, by decide⟩) (by omega) dX9_shelled_14 rfl ?_
      rw [x2]
      refine tt_ifgeN (t := 21) (q := 18) hc (by omega) dX9_shelled_15 rfl rfl ?_
      refine tt_iconst (v := nI 0) (q := 22) hc rfl dX9_shelled_21 rfl ?_
      refine tt_is2 (q := 23) hc dX9_shelled_22 rfl (by decide) ?_
      exact L xs.length 0 _ (by omega) (fun k hk => absurd hk (Nat.not_lt_zero _)) hQ
    · cases c_4
