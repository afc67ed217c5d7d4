/-! TEXT: words, numbers, points -/
def fewN (w : Nat) : Nat := [0, 0, 0, 0, 0, 0, 0, 0, 1, 0, 1, 1].getD w 0
def mostN (w : Nat) : Nat := [0, 0, 0, 0, 0, 0, 0, 0, 2, 0, 1, 8].getD w 0
theorem fewD_N : ∀ w, w < 12 → fewD w = nI (fewN w) ∧ mostD w = nI (mostN w) ∧ fewN w < 9 ∧ mostN w < 9 := by decide +kernel
theorem woN_lt {tx : List Nat} {f t : Nat} : ∀ n w x, woN tx f t n w = some x → x < w + n
  | 0, _, _, h => by cases h
  | n + 1, w, x, h => by
    rw [woN] at h
    split at h
    · cases h
      omega
    · have := woN_lt n (w + 1) x h
      omega
theorem wo_lt {tx : List Nat} {f t w : Nat} (h : wo tx f t = some w) : w < 12 := by
  have := woN_lt 12 0 w h
  omega
/-- the words from place p on, m at most: the FAULT, and each word with where its letters and its digits end -/
def spl (tx : List Nat) : Nat → Nat → Option Nat × List (Nat × Nat × Nat)
  | 0, p => (some (p - 1), [])
  | m + 1, p =>
    match wo tx p (bh tx 97 122 p) with
    | none => (some p, [])
    | some w =>
      if bh tx 48 57 (bh tx 97 122 p) - bh tx 97 122 p < fewN w ∨ mostN w < bh tx 48 57 (bh tx 97 122 p) - bh tx 97 122 p then (some p, [])
      else if tx.length ≤ bh tx 48 57 (bh tx 97 122 p) then (none, [(w, bh tx 97 122 p, bh tx 48 57 (bh tx 97 122 p))])
      else if tx.getD (bh tx 48 57 (bh tx 97 122 p)) 0 = 32 then ((spl tx m (bh tx 48 57 (bh tx 97 122 p) + 1)).1, (w, bh tx 97 122 p, bh tx 48 57 (bh tx 97 122 p)) :: (spl tx m (bh tx 48 57 (bh tx 97 122 p) + 1)).2)
      else (some (bh tx 48 57 (bh tx 97 122 p)), [(w, bh tx 97 122 p, bh tx 48 57 (bh tx 97 122 p))])
def ftI : Option Nat → Int32
  | some p => nI p
  | none => -5
/-- the cells of the words -/
def WD (μ : Mem) (ws : List (Nat × Nat × Nat)) : Prop := μ 18 5 = nI ws.length ∧ ∀ i q, ws[i]? = some q → μ 20 i = nI q.1 ∧ μ 21 i = nI q.2.1 ∧ μ 22 i = nI q.2.2
theorem HA20 : HA 20 0 12 := ⟨by decide, rfl, by decide⟩
theorem HA21 : HA 21 0 12 := ⟨by decide, rfl, by decide⟩
theorem HA22 : HA 22 0 12 := ⟨by decide, rfl, by decide⟩
theorem WD.push {ν ν' : Mem} {pre : List (Nat × Nat × Nat)} {w a b : Nat} (h : WD ν pre) (e18 : ν' 18 5 = nI (pre.length + 1)) (e20 : ν' 20 = upd (ν 20) pre.length (nI w)) (e21 : ν' 21 = upd (ν 21) pre.length (nI a)) (e22 : ν' 22 = upd (ν 22) pre.length (nI b)) : WD ν' (pre ++ [(w, a, b)]) := by
  refine ⟨by rw [e18, List.length_append]; rfl, fun i q hq => ?_⟩
  rw [e20, e21, e22]
  by_cases e : i < pre.length
  · rw [List.getElem?_append_left e] at hq
    rw [pk_un (by omega), pk_un (by omega), pk_un (by omega)]
    exact h.2 i q hq
  · have hl := (List.getElem?_eq_some_iff.mp hq).1
    rw [List.length_append, List.length_cons, List.length_nil] at hl
    have e2 : i = pre.length := by omega
    subst e2
    rw [List.getElem?_append_right (Nat.le_refl _), Nat.sub_self] at hq
    simp only [List.getElem?_cons_zero, Option.some.injEq] at hq
    rw [pk_us, pk_us, pk_us, ← hq]
    exact ⟨rfl, rfl, rfl⟩
set_option maxHeartbeats 16000000 in
theorem c_X6_split {l : Launch} {tx : List Nat} {μ : Mem} {Q : Option Value → Mem → Prop} (hX6 : XR μ tx) (hQ : ∀ μ', frm [18, 20, 21, 22] μ μ' → XR μ' tx → WD μ' (spl tx 12 0).2 → Q (some (.int (ftI (spl tx 12 0).1))) μ') : CC l 6 mX6_split [.ref 18] μ Q := by
  refine CC.of (M := mX6_split) (by decide +kernel) rfl (fun v h => by simp at h; subst h; rfl) (Nat.le_of_ble_eq_true rfl) (fun X hX => ?_)
  have hc := hX.cx
  have h1 := hX6.1
  have a19 := HA19
  have a20 := HA20
  have a21 := HA21
  have a22 := HA22
  have L : ∀ (m p : Nat) (pre : List (Nat × Nat × Nat)) (ν : Mem) (w3 w4 w5 : Value), pre.length + m = 12 → p ≤ tx.length → (m < 12 → 0 < p) → frm [18, 20, 21, 22] μ ν → XR ν tx → WD ν pre → (∀ μ', frm [18, 20, 21, 22] μ μ' → XR μ' tx → WD μ' (pre ++ (spl tx m p).2) → Q (some (.int (ftI (spl tx m p).1))) μ') → TT X 9 [.ref 18, .int (nI p), .int (nI pre.length), w3, w4, w5] [] ν := by
    intro m
    induction m with
    | zero =>
      intro p pre ν w3 w4 w5 hm hp h0 hf hY hW h
      have hp0 := h0 (by decide)
      rw [spl, List.append_nil] at h
      refine tt_il2 (q := 10) hc dX6_split_9 rfl ?_
      refine tt_bipush (v := nI 12) (q := 12) hc (by decide) dX6_split_10 rfl ?_
      first | (with_reducible refine chk2 ?_; refine tt_icgeN (t := 148) (q := 15) hc (by omega) (by omega) dX6_split_12 rfl rfl (fun c_12 => ?_) (fun c_12 => ?_)) | refine tt_icge (t := 148) (q := 15) hc dX6_split_12 rfl rfl (fun c_12 => ?_) (fun c_12 => ?_)
      · refine tt_il1 (q := 149) hc dX6_split_148 rfl ?_
        refine tt_iconst (v := nI 1) (q := 150) hc rfl dX6_split_149 rfl ?_
        first | (with_reducible refine chk2 ?_; refine tt_isubN (q := 151) hc (by omega) dX6_split_150 rfl ?_) | refine tt_isub (q := 151) hc dX6_split_150 rfl ?_
        refine tt_reti hX rfl dX6_split_151 ?_
        exact h ν hf hY hW
      · omega
    | succ m ih =>
      intro p pre ν w3 w4 w5 hm hp h0 hf hY hW h
      have b1 := bhN_le tx 97 122 (tx.length - p) p
      have b2 := bhN_le tx 48 57 (tx.length - bh tx 97 122 p) (bh tx 97 122 p)
      rw [← bh] at b1
      rw [← bh] at b2
      rw [spl] at h
      generalize he1 : bh tx 97 122 p = e1 at *
      generalize he2 : bh tx 48 57 e1 = e2 at *
      cases hwo : wo tx p e1 with
      | none =>
        rw [hwo] at h
        dsimp only at h
        rw [List.append_nil] at h
        refine tt_il2 (q := 10) hc dX6_split_9 rfl ?_
        refine tt_bipush (v := nI 12) (q := 12) hc (by decide) dX6_split_10 rfl ?_
        first | (with_reducible refine chk2 ?_; refine tt_icgeN (t := 148) (q := 15) hc (by omega) (by omega) dX6_split_12 rfl rfl (fun c_12 => ?_) (fun c_12 => ?_)) | refine tt_icge (t := 148) (q := 15) hc dX6_split_12 rfl rfl (fun c_12 => ?_) (fun c_12 => ?_)
        · omega
        · refine tt_al0 (q := 16) hc dX6_split_15 rfl ?_
          refine tt_il1 (q := 17) hc dX6_split_16 rfl ?_
          refine tt_bipush (v := nI 97) (q := 19) hc (by decide) dX6_split_17 rfl ?_
          refine tt_bipush (v := nI 122) (q := 21) hc (by decide) dX6_split_19 rfl ?_
          refine tt_cV3 (q := 24) (d' := 0) (ci := 6) hc (by first | decide | omega) kmX6_behind ml_X6_32 (by first | assumption | exact ⟨by decide, _, rfl⟩) rfl (Nat.le_of_ble_eq_true rfl) dX6_split_21 rfl ?_
          refine c_X6_behind hY (by decide) (by decide) hp ?_
          rw [he1]
          dsimp only [Option.toList, List.nil_append, List.cons_append]
          refine tt_is3 (q := 25) hc dX6_split_24 rfl (by decide) ?_
          refine tt_al0 (q := 26) hc dX6_split_25 rfl ?_
          refine tt_il3 (q := 27) hc dX6_split_26 rfl ?_
          refine tt_bipush (v := nI 48) (q := 29) hc (by decide) dX6_split_27 rfl ?_
          refine tt_bipush (v := nI 57) (q := 31) hc (by decide) dX6_split_29 rfl ?_
          refine tt_cV3 (q := 34) (d' := 0) (ci := 6) hc (by first | decide | omega) kmX6_behind ml_X6_32 (by first | assumption | exact ⟨by decide, _, rfl⟩) rfl (Nat.le_of_ble_eq_true rfl) dX6_split_31 rfl ?_
          refine c_X6_behind hY (by decide) (by decide) (by omega) ?_
          rw [he2]
          dsimp only [Option.toList, List.nil_append, List.cons_append]
          refine tt_is4 (q := 36) hc dX6_split_34 rfl (by decide) ?_
          refine tt_al0 (q := 37) hc dX6_split_36 rfl ?_
          refine tt_il1 (q := 38) hc dX6_split_37 rfl ?_
          refine tt_il3 (q := 39) hc dX6_split_38 rfl ?_
          refine tt_cV2 (q := 42) (d' := 5) (ci := 6) hc (by first | decide | omega) kmX6_wordAt ml_X6_36 (by first | assumption | exact ⟨by decide, _, rfl⟩) rfl (Nat.le_of_ble_eq_true rfl) dX6_split_39 rfl ?_
          refine c_X6_wordAt hY (by omega) (by omega) ?_
          rw [hwo]
          dsimp only [Option.toList, List.nil_append, List.cons_append]
          refine tt_is5 (q := 44) hc dX6_split_42 rfl (by decide) ?_
          refine tt_il5 (q := 46) hc dX6_split_44 rfl ?_
          refine tt_iflt (q := 49) (t := 75) hc dX6_split_46 rfl rfl (fun _ => ?_) (fun z => absurd (by decide) z)
          refine tt_il1 (q := 76) hc dX6_split_75 rfl ?_
          refine tt_reti hX rfl dX6_split_76 ?_
          exact h ν hf hY hW
      | some w =>
        have hw := wo_lt hwo
        have hfm := fewD_N w hw
        rw [hwo] at h
        dsimp only at h
        refine tt_il2 (q := 10) hc dX6_split_9 rfl ?_
        refine tt_bipush (v := nI 12) (q := 12) hc (by decide) dX6_split_10 rfl ?_
        first | (with_reducible refine chk2 ?_; refine tt_icgeN (t := 148) (q := 15) hc (by omega) (by omega) dX6_split_12 rfl rfl (fun c_12 => ?_) (fun c_12 => ?_)) | refine tt_icge (t := 148) (q := 15) hc dX6_split_12 rfl rfl (fun c_12 => ?_) (fun c_12 => ?_)
        · omega
        · refine tt_al0 (q := 16) hc dX6_split_15 rfl ?_
          refine tt_il1 (q := 17) hc dX6_split_16 rfl ?_
          refine tt_bipush (v := nI 97) (q := 19) hc (by decide) dX6_split_17 rfl ?_
          refine tt_bipush (v := nI 122) (q := 21) hc (by decide) dX6_split_19 rfl ?_
          refine tt_cV3 (q := 24) (d' := 0) (ci := 6) hc (by first | decide | omega) kmX6_behind ml_X6_32 (by first | assumption | exact ⟨by decide, _, rfl⟩) rfl (Nat.le_of_ble_eq_true rfl) dX6_split_21 rfl ?_
          refine c_X6_behind hY (by decide) (by decide) hp ?_
          rw [he1]
          dsimp only [Option.toList, List.nil_append, List.cons_append]
          refine tt_is3 (q := 25) hc dX6_split_24 rfl (by decide) ?_
          refine tt_al0 (q := 26) hc dX6_split_25 rfl ?_
          refine tt_il3 (q := 27) hc dX6_split_26 rfl ?_
          refine tt_bipush (v := nI 48) (q := 29) hc (by decide) dX6_split_27 rfl ?_
          refine tt_bipush (v := nI 57) (q := 31) hc (by decide) dX6_split_29 rfl ?_
          refine tt_cV3 (q := 34) (d' := 0) (ci := 6) hc (by first | decide | omega) kmX6_behind ml_X6_32 (by first | assumption | exact ⟨by decide, _, rfl⟩) rfl (Nat.le_of_ble_eq_true rfl) dX6_split_31 rfl ?_
          refine c_X6_behind hY (by decide) (by decide) (by omega) ?_
          rw [he2]
          dsimp only [Option.toList, List.nil_append, List.cons_append]
          refine tt_is4 (q := 36) hc dX6_split_34 rfl (by decide) ?_
          refine tt_al0 (q := 37) hc dX6_split_36 rfl ?_
          refine tt_il1 (q := 38) hc dX6_split_37 rfl ?_
          refine tt_il3 (q := 39) hc dX6_split_38 rfl ?_
          refine tt_cV2 (q := 42) (d' := 5) (ci := 6) hc (by first | decide | omega) kmX6_wordAt ml_X6_36 (by first | assumption | exact ⟨by decide, _, rfl⟩) rfl (Nat.le_of_ble_eq_true rfl) dX6_split_39 rfl ?_
          refine c_X6_wordAt hY (by omega) (by omega) ?_
          rw [hwo, show m1I (some w) = nI w from rfl]
          dsimp only [Option.toList, List.nil_append, List.cons_append]
          refine tt_is5 (q := 44) hc dX6_split_42 rfl (by decide) ?_
          refine tt_il5 (q := 46) hc dX6_split_44 rfl ?_
          refine tt_ifltN (t := 75) (q := 49) hc (by omega) dX6_split_46 rfl rfl ?_
          refine tt_il4 (q := 51) hc dX6_split_49 rfl ?_
          refine tt_il3 (q := 52) hc dX6_split_51 rfl ?_
          first | (with_reducible refine chk2 ?_; refine tt_isubN (q := 53) hc (by omega) dX6_split_52 rfl ?_) | refine tt_isub (q := 53) hc dX6_split_52 rfl ?_
          refine tt_few (q := 56) hc rfl dX6_split_53 rfl ?_
          refine tt_il5 (q := 58) hc dX6_split_56 rfl ?_
          refine tt_fewi (q := 59) hc hw dX6_split_58 rfl ?_
          rw [hfm.1]
          first | (with_reducible refine chk2 ?_; refine tt_icltN (t := 75) (q := 62) hc (by omega) (by omega) dX6_split_59 rfl rfl (fun c_59 => ?_) (fun c_59 => ?_)) | refine tt_iclt (t := 75) (q := 62) hc dX6_split_59 rfl rfl (fun c_59 => ?_) (fun c_59 => ?_)
          · refine tt_il1 (q := 76) hc dX6_split_75 rfl ?_
            refine tt_reti hX rfl dX6_split_76 ?_
            rw [if_pos (by omega), List.append_nil] at h
            exact h ν hf hY hW
          · refine tt_il4 (q := 64) hc dX6_split_62 rfl ?_
            refine tt_il3 (q := 65) hc dX6_split_64 rfl ?_
            first | (with_reducible refine chk2 ?_; refine tt_isubN (q := 66) hc (by omega) dX6_split_65 rfl ?_) | refine tt_isub (q := 66) hc dX6_split_65 rfl ?_
            refine tt_most (q := 69) hc rfl dX6_split_66 rfl ?_
            refine tt_il5 (q := 71) hc dX6_split_69 rfl ?_
            refine tt_mosti (q := 72) hc hw dX6_split_71 rfl ?_
            rw [hfm.2.1]
            first | (with_reducible refine chk2 ?_; refine tt_icleN (t := 77) (q := 75) hc (by omega) (by omega) dX6_split_72 rfl rfl (fun c_72 => ?_) (fun c_72 => ?_)) | refine tt_icle (t := 77) (q := 75) hc dX6_split_72 rfl rfl (fun c_72 => ?_) (fun c_72 => ?_)
            · refine tt_al0 (q := 78) hc dX6_split_77 rfl ?_
              refine tt_getR (q := 81) hc fl_X6_15 (by first | assumption | exact ⟨by decide, _, rfl, rfl⟩) dX6_split_78 rfl ?_
              refine tt_il2 (q := 82) hc dX6_split_81 rfl ?_
              refine tt_il5 (q := 84) hc dX6_split_82 rfl ?_
              refine tt_iast (q := 85) hc (by first | assumption | exact ⟨by decide, rfl, by decide⟩) (by omega) dX6_split_84 rfl ?_
              refine tt_al0 (q := 86) hc dX6_split_85 rfl ?_
              refine tt_getR (q := 89) hc fl_X6_19 (by first | assumption | exact ⟨by decide, _, rfl, rfl⟩) dX6_split_86 rfl ?_
              refine tt_il2 (q := 90) hc dX6_split_89 rfl ?_
              refine tt_il3 (q := 91) hc dX6_split_90 rfl ?_
              refine tt_iast (q := 92) hc (by first | assumption | exact ⟨by decide, rfl, by decide⟩) (by omega) dX6_split_91 rfl ?_
              refine tt_al0 (q := 93) hc dX6_split_92 rfl ?_
              refine tt_getR (q := 96) hc fl_X6_22 (by first | assumption | exact ⟨by decide, _, rfl, rfl⟩) dX6_split_93 rfl ?_
              refine tt_il2 (q := 97) hc dX6_split_96 rfl ?_
              refine tt_il4 (q := 99) hc dX6_split_97 rfl ?_
              refine tt_iast (q := 100) hc (by first | assumption | exact ⟨by decide, rfl, by decide⟩) (by omega) dX6_split_99 rfl ?_
              refine tt_al0 (q := 101) hc dX6_split_100 rfl ?_
              refine tt_dup (q := 102) hc rfl dX6_split_101 rfl ?_
              refine tt_getI (q := 105) hc fl_X6_29 (by first | assumption | exact ⟨by decide, _, rfl, _, rfl⟩) dX6_split_102 rfl ?_
              rw [mset_ne (by decide), mset_ne (by decide), mset_ne (by decide), hW.1]
              refine tt_iconst (v := nI 1) (q := 106) hc rfl dX6_split_105 rfl ?_
              first | (with_reducible refine chk2 ?_; refine tt_iaddN (q := 107) hc dX6_split_106 rfl ?_) | refine tt_iadd (q := 107) hc dX6_split_106 rfl ?_
              refine tt_putI (q := 110) hc fp_X6_29 (by first | assumption | exact ⟨by decide, _, rfl, _, rfl⟩) dX6_split_107 rfl ?_
              have hfr : frm [18, 20, 21, 22] ν (mset (mset (mset (mset ν 20 (upd (ν 20) pre.length (nI w))) 21 (upd (mset ν 20 (upd (ν 20) pre.length (nI w)) 21) pre.length (nI e1))) 22 (upd (mset (mset ν 20 (upd (ν 20) pre.length (nI w))) 21 (upd (mset ν 20 (upd (ν 20) pre.length (nI w)) 21) pre.length (nI e1)) 22) pre.length (nI e2))) 18 (upd (mset (mset (mset ν 20 (upd (ν 20) pre.length (nI w))) 21 (upd (mset ν 20 (upd (ν 20) pre.length (nI w)) 21) pre.length (nI e1))) 22 (upd (mset (mset ν 20 (upd (ν 20) pre.length (nI w))) 21 (upd (mset ν 20 (upd (ν 20) pre.length (nI w)) 21) pre.length (nI e1)) 22) pre.length (nI e2)) 18) 5 (nI (pre.length + 1)))) := ((frm.set (i := 20)).mono (by simp)).tr (((frm.set (i := 21)).mono (by simp)).tr (((frm.set (i := 22)).mono (by simp)).tr ((frm.set (i := 18)).mono (by simp))))
              generalize hν : (mset (mset (mset (mset ν 20 (upd (ν 20) pre.length (nI w))) 21 (upd (mset ν 20 (upd (ν 20) pre.length (nI w)) 21) pre.length (nI e1))) 22 (upd (mset (mset ν 20 (upd (ν 20) pre.length (nI w))) 21 (upd (mset ν 20 (upd (ν 20) pre.length (nI w)) 21) pre.length (nI e1)) 22) pre.length (nI e2))) 18 (upd (mset (mset (mset ν 20 (upd (ν 20) pre.length (nI w))) 21 (upd (mset ν 20 (upd (ν 20) pre.length (nI w)) 21) pre.length (nI e1))) 22 (upd (mset (mset ν 20 (upd (ν 20) pre.length (nI w))) 21 (upd (mset ν 20 (upd (ν 20) pre.length (nI w)) 21) pre.length (nI e1)) 22) pre.length (nI e2)) 18) 5 (nI (pre.length + 1)))) = ν1 at hfr ⊢
              have hX1 : XR ν1 tx := ⟨h1, by rw [← hν, mset_eq, pk_un (by decide), mset_ne (by decide), mset_ne (by decide), mset_ne (by decide)]; exact hY.2.1, by rw [hfr 19 (by decide)]; exact hY.2.2.1, hY.2.2.2⟩
              have hW1 : WD ν1 (pre ++ [(w, e1, e2)]) := hW.push (by rw [← hν, mset_eq, pk_us]) (by rw [← hν, mset_ne (by decide), mset_ne (by decide), mset_ne (by decide), mset_eq]) (by rw [← hν, mset_ne (by decide), mset_ne (by decide), mset_eq, mset_ne (by decide)]) (by rw [← hν, mset_ne (by decide), mset_eq, mset_ne (by decide), mset_ne (by decide)])
              rw [if_neg (by omega)] at h
              refine tt_il4 (q := 112) hc dX6_split_110 rfl ?_
              refine tt_al0 (q := 113) hc dX6_split_112 rfl ?_
              refine tt_getI (q := 116) hc fl_X6_25 (by first | assumption | exact ⟨by decide, _, rfl, _, rfl⟩) dX6_split_113 rfl ?_
              rw [hX1.2.1]
              first | (with_reducible refine chk2 ?_; refine tt_icltN (t := 122) (q := 119) hc (by omega) (by omega) dX6_split_116 rfl rfl (fun c_116 => ?_) (fun c_116 => ?_)) | refine tt_iclt (t := 122) (q := 119) hc dX6_split_116 rfl rfl (fun c_116 => ?_) (fun c_116 => ?_)
              · refine tt_al0 (q := 123) hc dX6_split_122 rfl ?_
                refine tt_getR (q := 126) hc fl_X6_9 (by first | assumption | exact ⟨by decide, _, rfl, rfl⟩) dX6_split_123 rfl ?_
                refine tt_il4 (q := 128) hc dX6_split_126 rfl ?_
                refine tt_bald (q := 129) hc (by first | assumption | exact ⟨by decide, rfl, by decide⟩) (by omega) dX6_split_128 rfl ?_
                have h19 := hX1.at (i := e2) (by omega)
                rw [h19.1]
                refine tt_bipush (v := nI 32) (q := 131) hc (by decide) dX6_split_129 rfl ?_
                first | (with_reducible refine chk2 ?_; refine tt_iceqN (t := 137) (q := 134) hc (by omega) (by omega) dX6_split_131 rfl rfl (fun c_131 => ?_) (fun c_131 => ?_)) | refine tt_iceq (t := 137) (q := 134) hc dX6_split_131 rfl rfl (fun c_131 => ?_) (fun c_131 => ?_)
                · refine tt_il4 (q := 139) hc dX6_split_137 rfl ?_
                  refine tt_iconst (v := nI 1) (q := 140) hc rfl dX6_split_139 rfl ?_
                  first | (with_reducible refine chk2 ?_; refine tt_iaddN (q := 141) hc dX6_split_140 rfl ?_) | refine tt_iadd (q := 141) hc dX6_split_140 rfl ?_
                  refine tt_is1 (q := 142) hc dX6_split_141 rfl (by decide) ?_
                  first | refine tt_inc2 (q := 145) hc dX6_split_142 rfl (by decide) (incN _) ?_ | refine tt_inc2 (q := 145) hc dX6_split_142 rfl (by decide) rfl ?_
                  refine tt_goto (t := 9) hc dX6_split_145 rfl ?_
                  rw [if_neg (by omega), if_pos c_131] at h
                  have hlen : pre.length + 1 = (pre ++ [(w, e1, e2)]).length := by rw [List.length_append]; rfl
                  rw [hlen]
                  refine ih (e2 + 1) (pre ++ [(w, e1, e2)]) ν1 _ _ _ (by rw [← hlen]; omega) (by omega) (fun _ => by omega) (hf.tr hfr) hX1 hW1 (fun μ' g1 g2 g3 => h μ' g1 g2 ?_)
                  rw [List.append_assoc] at g3
                  exact g3
                · refine tt_il4 (q := 136) hc dX6_split_134 rfl ?_
                  refine tt_reti hX rfl dX6_split_136 ?_
                  rw [if_neg (by omega), if_neg c_131] at h
                  exact h ν1 (hf.tr hfr) hX1 hW1
              · refine tt_bipush (v := -5) (q := 121) hc (by decide) dX6_split_119 rfl ?_
                refine tt_reti hX rfl dX6_split_121 ?_
                rw [if_pos (by omega)] at h
                exact h ν1 (hf.tr hfr) hX1 hW1
            · refine tt_il1 (q := 76) hc dX6_split_75 rfl ?_
              refine tt_reti hX rfl dX6_split_76 ?_
              rw [if_pos (by omega), List.append_nil] at h
              exact h ν hf hY hW
  refine tt_al0 (q := 1) hc dX6_split_0 rfl ?_
  refine tt_iconst (v := nI 0) (q := 2) hc rfl dX6_split_1 rfl ?_
  refine tt_putI (q := 5) hc fp_X6_29 (by first | assumption | exact ⟨by decide, _, rfl, _, rfl⟩) dX6_split_2 rfl ?_
  refine tt_iconst (v := nI 0) (q := 6) hc rfl dX6_split_5 rfl ?_
  refine tt_is1 (q := 7) hc dX6_split_6 rfl (by decide) ?_
  refine tt_iconst (v := nI 0) (q := 8) hc rfl dX6_split_7 rfl ?_
  refine tt_is2 (q := 9) hc dX6_split_8 rfl (by decide) ?_
  exact L 12 0 [] _ _ _ _ rfl (Nat.zero_le _) (fun z => by omega) ((frm.set (i := 18)).mono (by simp)) ⟨h1, by rw [mset_eq, pk_un (by decide)]; exact hX6.2.1, by rw [mset_ne (by decide)]; exact hX6.2.2.1, hX6.2.2.2⟩ ⟨by rw [mset_eq, pk_us]; rfl, fun i q h => by simp at h⟩ hQ
/-- digits as a number; as points -/
def valN (tx : List Nat) : Nat → Nat → Nat → Nat
  | 0, _, v => v
  | n + 1, i, v => valN tx n (i + 1) (10 * v + tx.getD i 0 - 48)
def psN (tx : List Nat) : Nat → Nat → Nat → Option Nat
  | 0, _, s => some s
  | n + 1, i, s => if 55 < tx.getD i 0 then none else psN tx n (i + 1) (s ||| 2 ^ (tx.getD i 0 - 48))
theorem bhN_in {tx : List Nat} {a b : Nat} : ∀ n i k, i ≤ k → k < bhN tx a b n i → a ≤ tx.getD k 0 ∧ tx.getD k 0 ≤ b
  | 0, i, k, h1, h2 => by
    rw [bhN] at h2
    omega
  | n + 1, i, k, h1, h2 => by
    rw [bhN] at h2
    split at h2
    · omega
    · by_cases e : k = i
      · rw [e]
        omega
      · exact bhN_in n (i + 1) k (by omega) h2
set_option maxHeartbeats 4000000 in
theorem c_X6_value {l : Launch} {tx : List Nat} {ws : List (Nat × Nat × Nat)} {k : Nat} {q : Nat × Nat × Nat} {μ : Mem} {Q : Option Value → Mem → Prop} (h19 : ∀ i b, tx[i]? = some b → μ 19 i = nI b) (hlen : tx.length ≤ 120) (hW : WD μ ws) (hk : k < 12) (hq : ws[k]? = some q) (h1 : q.2.1 ≤ q.2.2) (h2 : q.2.2 ≤ tx.length) (hd : ∀ i, q.2.1 ≤ i → i < q.2.2 → 48 ≤ tx.getD i 0 ∧ tx.getD i 0 ≤ 57) (hQ : Q (some (.int (nI (valN tx (q.2.2 - q.2.1) q.2.1 0)))) μ) : CC l 0 mX6_value [.ref 18, .int (nI k)] μ Q := by
  refine CC.of (M := mX6_value) (by decide +kernel) rfl (fun v h => by simp at h; rcases h with rfl | rfl <;> rfl) (Nat.le_of_ble_eq_true rfl) (fun X hX => ?_)
  have hc := hX.cx
  have a19 := HA19
  have a21 := HA21
  have a22 := HA22
  have hw := hW.2 k q hq
  have L : ∀ (n i v : Nat), i + n = q.2.2 → q.2.1 ≤ i → Q (some (.int (nI (valN tx n i v)))) μ → TT X 9 [.ref 18, .int (nI k), .int (nI v), .int (nI i)] [] μ := by
    intro n
    induction n with
    | zero =>
      intro i v hi hq1 h
      refine tt_il3 (q := 10) hc dX6_value_9 rfl ?_
      refine tt_al0 (q := 11) hc dX6_value_10 rfl ?_
      refine tt_getR (q := 14) hc fl_X6_22 (by first | assumption | exact ⟨by decide, _, rfl, rfl⟩) dX6_value_11 rfl ?_
      refine tt_il1 (q := 15) hc dX6_value_14 rfl ?_
      refine tt_iald (q := 16) hc (by first | assumption | exact ⟨by decide, rfl, by decide⟩) (by omega) dX6_value_15 rfl ?_
      rw [hw.2.2]
      first | (with_reducible refine chk2 ?_; refine tt_icgeN (t := 40) (q := 19) hc (by omega) (by omega) dX6_value_16 rfl rfl (fun c_16 => ?_) (fun c_16 => ?_)) | refine tt_icge (t := 40) (q := 19) hc dX6_value_16 rfl rfl (fun c_16 => ?_) (fun c_16 => ?_)
      · refine tt_il2 (q := 41) hc dX6_value_40 rfl ?_
        refine tt_reti hX rfl dX6_value_41 ?_
        exact h
      · omega
    | succ n ih =>
      intro i v hi hq1 h
      have hdi := hd i hq1 (by omega)
      have hx := h19 i _ (getD_some (d := 0) (by omega))
      rw [valN] at h
      refine tt_il3 (q := 10) hc dX6_value_9 rfl ?_
      refine tt_al0 (q := 11) hc dX6_value_10 rfl ?_
      refine tt_getR (q := 14) hc fl_X6_22 (by first | assumption | exact ⟨by decide, _, rfl, rfl⟩) dX6_value_11 rfl ?_
      refine tt_il1 (q := 15) hc dX6_value_14 rfl ?_
      refine tt_iald (q := 16) hc (by first | assumption | exact ⟨by decide, rfl, by decide⟩) (by omega) dX6_value_15 rfl ?_
      rw [hw.2.2]
      first | (with_reducible refine chk2 ?_; refine tt_icgeN (t := 40) (q := 19) hc (by omega) (by omega) dX6_value_16 rfl rfl (fun c_16 => ?_) (fun c_16 => ?_)) | refine tt_icge (t := 40) (q := 19) hc dX6_value_16 rfl rfl (fun c_16 => ?_) (fun c_16 => ?_)
      · omega
      · refine tt_bipush (v := nI 10) (q := 21) hc (by decide) dX6_value_19 rfl ?_
        refine tt_il2 (q := 22) hc dX6_value_21 rfl ?_
        first | (with_reducible refine chk2 ?_; refine tt_imulN (q := 23) hc dX6_value_22 rfl ?_) | refine tt_imul (q := 23) hc dX6_value_22 rfl ?_
        refine tt_al0 (q := 24) hc dX6_value_23 rfl ?_
        refine tt_getR (q := 27) hc fl_X6_9 (by first | assumption | exact ⟨by decide, _, rfl, rfl⟩) dX6_value_24 rfl ?_
        refine tt_il3 (q := 28) hc dX6_value_27 rfl ?_
        refine tt_bald (q := 29) hc (by first | assumption | exact ⟨by decide, rfl, by decide⟩) (by omega) dX6_value_28 rfl ?_
        rw [hx]
        first | (with_reducible refine chk2 ?_; refine tt_iaddN (q := 30) hc dX6_value_29 rfl ?_) | refine tt_iadd (q := 30) hc dX6_value_29 rfl ?_
        refine tt_bipush (v := nI 48) (q := 32) hc (by decide) dX6_value_30 rfl ?_
        first | (with_reducible refine chk2 ?_; refine tt_isubN (q := 33) hc (by omega) dX6_value_32 rfl ?_) | refine tt_isub (q := 33) hc dX6_value_32 rfl ?_
        refine tt_is2 (q := 34) hc dX6_value_33 rfl (by decide) ?_
        first | refine tt_inc3 (q := 37) hc dX6_value_34 rfl (by decide) (incN _) ?_ | refine tt_inc3 (q := 37) hc dX6_value_34 rfl (by decide) rfl ?_
        refine tt_goto (t := 9) hc dX6_value_37 rfl ?_
        exact ih (i + 1) _ (by omega) (by omega) h
  refine tt_iconst (v := nI 0) (q := 1) hc rfl dX6_value_0 rfl ?_
  refine tt_is2 (q := 2) hc dX6_value_1 rfl (by decide) ?_
  refine tt_al0 (q := 3) hc dX6_value_2 rfl ?_
  refine tt_getR (q := 6) hc fl_X6_19 (by first | assumption | exact ⟨by decide, _, rfl, rfl⟩) dX6_value_3 rfl ?_
  refine tt_il1 (q := 7) hc dX6_value_6 rfl ?_
  refine tt_iald (q := 8) hc (by first | assumption | exact ⟨by decide, rfl, by decide⟩) (by omega) dX6_value_7 rfl ?_
  rw [hw.2.1]
  refine tt_is3 (q := 9) hc dX6_value_8 rfl (by decide) ?_
  exact L _ q.2.1 0 (by omega) (Nat.le_refl _) hQ
set_option maxHeartbeats 4000000 in
theorem c_X6_pointSet {l : Launch} {tx : List Nat} {ws : List (Nat × Nat × Nat)} {k : Nat} {q : Nat × Nat × Nat} {μ : Mem} {Q : Option Value → Mem → Prop} (h19 : ∀ i b, tx[i]? = some b → μ 19 i = nI b) (hlen : tx.length ≤ 120) (hW : WD μ ws) (hk : k < 12) (hq : ws[k]? = some q) (h1 : q.2.1 ≤ q.2.2) (h2 : q.2.2 ≤ tx.length) (hd : ∀ i, q.2.1 ≤ i → i < q.2.2 → 48 ≤ tx.getD i 0 ∧ tx.getD i 0 ≤ 57) (hQ : Q (some (.int (m1I (psN tx (q.2.2 - q.2.1) q.2.1 0)))) μ) : CC l 0 mX6_pointSet [.ref 18, .int (nI k)] μ Q := by
  refine CC.of (M := mX6_pointSet) (by decide +kernel) rfl (fun v h => by simp at h; rcases h with rfl | rfl <;> rfl) (Nat.le_of_ble_eq_true rfl) (fun X hX => ?_)
  have hc := hX.cx
  have a19 := HA19
  have a21 := HA21
  have a22 := HA22
  have hw := hW.2 k q hq
  have L : ∀ (n i s : Nat) (w : Value), i + n = q.2.2 → q.2.1 ≤ i → Q (some (.int (m1I (psN tx n i s)))) μ → TT X 9 [.ref 18, .int (nI k), .int (nI s), .int (nI i), w] [] μ := by
    intro n
    induction n with
    | zero =>
      intro i s w hi hq1 h
      refine tt_il3 (q := 10) hc dX6_pointSet_9 rfl ?_
      refine tt_al0 (q := 11) hc dX6_pointSet_10 rfl ?_
      refine tt_getR (q := 14) hc fl_X6_22 (by first | assumption | exact ⟨by decide, _, rfl, rfl⟩) dX6_pointSet_11 rfl ?_
      refine tt_il1 (q := 15) hc dX6_pointSet_14 rfl ?_
      refine tt_iald (q := 16) hc (by first | assumption | exact ⟨by decide, rfl, by decide⟩) (by omega) dX6_pointSet_15 rfl ?_
      rw [hw.2.2]
      first | (with_reducible refine chk2 ?_; refine tt_icgeN (t := 52) (q := 19) hc (by omega) (by omega) dX6_pointSet_16 rfl rfl (fun c_16 => ?_) (fun c_16 => ?_)) | refine tt_icge (t := 52) (q := 19) hc dX6_pointSet_16 rfl rfl (fun c_16 => ?_) (fun c_16 => ?_)
      · refine tt_il2 (q := 53) hc dX6_pointSet_52 rfl ?_
        refine tt_reti hX rfl dX6_pointSet_53 ?_
        exact h
      · omega
    | succ n ih =>
      intro i s w hi hq1 h
      have hdi := hd i hq1 (by omega)
      have hx := h19 i _ (getD_some (d := 0) (by omega))
      rw [psN] at h
      refine tt_il3 (q := 10) hc dX6_pointSet_9 rfl ?_
      refine tt_al0 (q := 11) hc dX6_pointSet_10 rfl ?_
      refine tt_getR (q := 14) hc fl_X6_22 (by first | assumption | exact ⟨by decide, _, rfl, rfl⟩) dX6_pointSet_11 rfl ?_
      refine tt_il1 (q := 15) hc dX6_pointSet_14 rfl ?_
      refine tt_iald (q := 16) hc (by first | assumption | exact ⟨by decide, rfl, by decide⟩) (by omega) dX6_pointSet_15 rfl ?_
      rw [hw.2.2]
      first | (with_reducible refine chk2 ?_; refine tt_icgeN (t := 52) (q := 19) hc (by omega) (by omega) dX6_pointSet_16 rfl rfl (fun c_16 => ?_) (fun c_16 => ?_)) | refine tt_icge (t := 52) (q := 19) hc dX6_pointSet_16 rfl rfl (fun c_16 => ?_) (fun c_16 => ?_)
      · omega
      · refine tt_al0 (q := 20) hc dX6_pointSet_19 rfl ?_
        refine tt_getR (q := 23) hc fl_X6_9 (by first | assumption | exact ⟨by decide, _, rfl, rfl⟩) dX6_pointSet_20 rfl ?_
        refine tt_il3 (q := 24) hc dX6_pointSet_23 rfl ?_
        refine tt_bald (q := 25) hc (by first | assumption | exact ⟨by decide, rfl, by decide⟩) (by omega) dX6_pointSet_24 rfl ?_
        rw [hx]
        refine tt_bipush (v := nI 48) (q := 27) hc (by decide) dX6_pointSet_25 rfl ?_
        first | (with_reducible refine chk2 ?_; refine tt_isubN (q := 28) hc (by omega) dX6_pointSet_27 rfl ?_) | refine tt_isub (q := 28) hc dX6_pointSet_27 rfl ?_
        refine tt_is4 (q := 30) hc dX6_pointSet_28 rfl (by decide) ?_
        refine tt_il4 (q := 32) hc dX6_pointSet_30 rfl ?_
        refine tt_bipush (v := nI 8) (q := 34) hc (by decide) dX6_pointSet_32 rfl ?_
        first | (with_reducible refine chk2 ?_; refine tt_icltN (t := 39) (q := 37) hc (by omega) (by omega) dX6_pointSet_34 rfl rfl (fun c_34 => ?_) (fun c_34 => ?_)) | refine tt_iclt (t := 39) (q := 37) hc dX6_pointSet_34 rfl rfl (fun c_34 => ?_) (fun c_34 => ?_)
        · refine tt_il2 (q := 40) hc dX6_pointSet_39 rfl ?_
          refine tt_iconst (v := nI 1) (q := 41) hc rfl dX6_pointSet_40 rfl ?_
          refine tt_il4 (q := 43) hc dX6_pointSet_41 rfl ?_
          first | (with_reducible refine chks ?_; refine tt_ishl1 (q := 44) hc (by omega) dX6_pointSet_43 rfl ?_) | (with_reducible refine chk2 ?_; refine tt_ishlN (q := 44) hc (by omega) (by omega) dX6_pointSet_43 rfl ?_) | refine tt_ishl (q := 44) hc dX6_pointSet_43 rfl ?_
          first | (with_reducible refine chk2 ?_; refine tt_iorN (q := 45) hc dX6_pointSet_44 rfl ?_) | refine tt_ior (q := 45) hc dX6_pointSet_44 rfl ?_
          refine tt_is2 (q := 46) hc dX6_pointSet_45 rfl (by decide) ?_
          first | refine tt_inc3 (q := 49) hc dX6_pointSet_46 rfl (by decide) (incN _) ?_ | refine tt_inc3 (q := 49) hc dX6_pointSet_46 rfl (by decide) rfl ?_
          refine tt_goto (t := 9) hc dX6_pointSet_49 rfl ?_
          rw [if_neg (by omega)] at h
          exact ih (i + 1) _ _ (by omega) (by omega) h
        · refine tt_iconst (v := -1) (q := 38) hc rfl dX6_pointSet_37 rfl ?_
          refine tt_reti hX rfl dX6_pointSet_38 ?_
          rw [if_pos (by omega)] at h
          exact h
  refine tt_iconst (v := nI 0) (q := 1) hc rfl dX6_pointSet_0 rfl ?_
  refine tt_is2 (q := 2) hc dX6_pointSet_1 rfl (by decide) ?_
  refine tt_al0 (q := 3) hc dX6_pointSet_2 rfl ?_
  refine tt_getR (q := 6) hc fl_X6_19 (by first | assumption | exact ⟨by decide, _, rfl, rfl⟩) dX6_pointSet_3 rfl ?_
  refine tt_il1 (q := 7) hc dX6_pointSet_6 rfl ?_
  refine tt_iald (q := 8) hc (by first | assumption | exact ⟨by decide, rfl, by decide⟩) (by omega) dX6_pointSet_7 rfl ?_
  rw [hw.2.1]
  refine tt_is3 (q := 9) hc dX6_pointSet_8 rfl (by decide) ?_
  exact L _ q.2.1 0 _ (by omega) (Nat.le_refl _) hQ
