/-! THE MODEL: spreading -/
def vI (π : Nat × Nat → Nat) : Option (Nat × Nat) → Int32
  | none => -1
  | some x => nI (π x)
def FQ (π : Nat × Nat → Nat) (μ : Mem) (v : Vis) : Prop := ∀ s, s < 256 → μ 28 s = vI π (v s)
def PL (μ : Mem) (pile : List Nat) : Prop := ∀ k s, pile[k]? = some s → μ 29 k = nI s
theorem HA28 : HA 28 0 256 := ⟨by decide, rfl, by decide⟩
theorem HA29 : HA 29 0 256 := ⟨by decide, rfl, by decide⟩
theorem FQ.set {π : Nat × Nat → Nat} {μ μ' : Mem} {v : Vis} {s : Nat} {x : Nat × Nat} (h : FQ π μ v) (e : μ' 28 = upd (μ 28) s (nI (π x))) : FQ π μ' (vset v s x) := fun t ht => by
  rw [e]
  by_cases c : t = s
  · rw [c, pk_us, vset_eq]
    rfl
  · rw [pk_un c, vset_ne c]
    exact h t ht
theorem PL.push {μ μ' : Mem} {pile : List Nat} {s : Nat} (h : PL μ pile) (e : μ' 29 = upd (μ 29) pile.length (nI s)) : PL μ' (pile ++ [s]) := by
  intro k t hk
  rw [e]
  by_cases hl : k < pile.length
  · rw [List.getElem?_append_left hl] at hk
    rw [pk_un (by omega)]
    exact h k t hk
  · have l1 := (List.getElem?_eq_some_iff.mp hk).1
    rw [List.length_append, List.length_cons, List.length_nil] at l1
    have e2 : k = pile.length := by omega
    subst e2
    rw [List.getElem?_append_right (Nat.le_refl _), Nat.sub_self] at hk
    simp only [List.getElem?_cons_zero, Option.some.injEq] at hk
    rw [pk_us, ← hk]
theorem at_push {l : List Nat} {k c s : Nat} (h : l[k]? = some c) : (l ++ [s])[k]? = some c := by
  have := (List.getElem?_eq_some_iff.mp h).1
  rw [List.getElem?_append_left this]
  exact h
theorem BA.fr {μ ν : Mem} {a : Nat} {B : HP} {l : List Nat} (h : BA μ a B) (hf : frm l μ ν) (ha : a ∉ l) : BA ν a B := fun s hs => by rw [hf a ha]; exact h s hs
set_option maxHeartbeats 2000000 in
theorem m_inner {l : Launch} {K : Nat} {B : HP} {Q : Option Value → Mem → Prop} {X : XT} (hX : Cm X l 3 mX9_spreads Q) (hB : HOK K B) {from_ k cur dc sc : Nat} (hcl : cur < 256) :
    ∀ (m s v0 : Nat) (st : List Nat × Vis) (ν : Mem), s + m = 256 → 0 < s → PI B st v0 → DB B st.2 → FQ Prod.fst ν st.2 → PL ν st.1 → st.1[k]? = some cur → st.2 cur = some (dc, sc) → BA ν 77 B → ν 24 0 = nI K →
      (∀ (ν' : Mem) (w : Value), frm [28, 29] ν ν' → PI B (scan K cur dc sc (blF B m s) st) v0 → DB B (scan K cur dc sc (blF B m s) st).2 → FQ Prod.fst ν' (scan K cur dc sc (blF B m s) st).2 → PL ν' (scan K cur dc sc (blF B m s) st).1 → TT X 109 [.ref 24, .int (nI from_), .int (nI (scan K cur dc sc (blF B m s) st).1.length), .int (nI k), w] [] ν') →
      TT X 26 [.ref 24, .int (nI from_), .int (nI st.1.length), .int (nI k), .int (nI s)] [] ν := by
  have hc := hX.cx
  have htot := tot_le hB
  have a28 := HA28
  have a29 := HA29
  have a77 := HA77
  have hK := hB.1
  intro m
  induction m with
  | zero =>
    intro s v0 st ν hs h0 hPI hDB hFQ hPL hk hv hBA hz h
    refine tt_il4 (q := 28) hc dX9_spreads_26 rfl ?_
    refine tt_sipush (v := nI 256) (q := 31) hc (by decide) dX9_spreads_28 rfl ?_
    first | (with_reducible refine chk2 ?_; refine tt_icgeN (t := 109) (q := 34) hc (by omega) (by omega) dX9_spreads_31 rfl rfl (fun c_31 => ?_) (fun c_31 => ?_)) | refine tt_icge (t := 109) (q := 34) hc dX9_spreads_31 rfl rfl (fun c_31 => ?_) (fun c_31 => ?_)
    · exact h ν _ frm.rf hPI hDB hFQ hPL
    · omega
  | succ m ih =>
    intro s v0 st ν hs h0 hPI hDB hFQ hPL hk hv hBA hz h
    have hkl := (List.getElem?_eq_some_iff.mp hk).1
    have hpl : st.1.length ≤ tot B := by have := hPI.1; have := cV_le (B := B) (v := st.2); omega
    rw [blF] at h
    cases hbs : B s with
    | false =>
      rw [hbs, if_neg Bool.false_ne_true] at h
      refine tt_il4 (q := 28) hc dX9_spreads_26 rfl ?_
      refine tt_sipush (v := nI 256) (q := 31) hc (by decide) dX9_spreads_28 rfl ?_
      first | (with_reducible refine chk2 ?_; refine tt_icgeN (t := 109) (q := 34) hc (by omega) (by omega) dX9_spreads_31 rfl rfl (fun c_31 => ?_) (fun c_31 => ?_)) | refine tt_icge (t := 109) (q := 34) hc dX9_spreads_31 rfl rfl (fun c_31 => ?_) (fun c_31 => ?_)
      · omega
      · refine tt_al0 (q := 35) hc dX9_spreads_34 rfl ?_
        refine tt_getR (q := 38) hc fl_X9_15 (by first | assumption | exact ⟨by decide, _, rfl, rfl⟩) dX9_spreads_35 rfl ?_
        refine tt_il4 (q := 40) hc dX9_spreads_38 rfl ?_
        refine tt_zald (q := 41) hc (by first | assumption | exact ⟨by decide, rfl, by decide⟩) (by omega) dX9_spreads_40 rfl ?_
        rw [hBA s (by omega), hbs]
        first | (with_reducible refine chkb ?_; refine tt_ifeqB (t := 103) (q := 44) hc dX9_spreads_41 rfl rfl (fun c_41 => ?_) (fun c_41 => ?_)) | (with_reducible refine chk1 ?_; refine tt_ifeqN (t := 103) (q := 44) hc (by omega) dX9_spreads_41 rfl rfl (fun c_41 => ?_) (fun c_41 => ?_)) | refine tt_ifeq (t := 103) (q := 44) hc dX9_spreads_41 rfl rfl (fun c_41 => ?_) (fun c_41 => ?_)
        · first | refine tt_inc4 (q := 106) hc dX9_spreads_103 rfl (by decide) (incN _) ?_ | refine tt_inc4 (q := 106) hc dX9_spreads_103 rfl (by decide) rfl ?_
          refine tt_goto (t := 26) hc dX9_spreads_106 rfl ?_
          exact ih (s + 1) v0 st ν (by omega) (by omega) hPI hDB hFQ hPL hk hv hBA hz h
        · cases c_41
    | true =>
      rw [hbs, if_pos rfl, scan] at h
      cases hvs : st.2 s with
      | some x =>
        rw [if_neg (fun z => by rw [hvs] at z; cases z.1)] at h
        have hdx : x.1 < 2 ^ 31 := by have := hDB s x.1 x.2 hvs; have := cV_le (B := B) (v := st.2); omega
        refine tt_il4 (q := 28) hc dX9_spreads_26 rfl ?_
        refine tt_sipush (v := nI 256) (q := 31) hc (by decide) dX9_spreads_28 rfl ?_
        first | (with_reducible refine chk2 ?_; refine tt_icgeN (t := 109) (q := 34) hc (by omega) (by omega) dX9_spreads_31 rfl rfl (fun c_31 => ?_) (fun c_31 => ?_)) | refine tt_icge (t := 109) (q := 34) hc dX9_spreads_31 rfl rfl (fun c_31 => ?_) (fun c_31 => ?_)
        · omega
        · refine tt_al0 (q := 35) hc dX9_spreads_34 rfl ?_
          refine tt_getR (q := 38) hc fl_X9_15 (by first | assumption | exact ⟨by decide, _, rfl, rfl⟩) dX9_spreads_35 rfl ?_
          refine tt_il4 (q := 40) hc dX9_spreads_38 rfl ?_
          refine tt_zald (q := 41) hc (by first | assumption | exact ⟨by decide, rfl, by decide⟩) (by omega) dX9_spreads_40 rfl ?_
          rw [hBA s (by omega), hbs]
          first | (with_reducible refine chkb ?_; refine tt_ifeqB (t := 103) (q := 44) hc dX9_spreads_41 rfl rfl (fun c_41 => ?_) (fun c_41 => ?_)) | (with_reducible refine chk1 ?_; refine tt_ifeqN (t := 103) (q := 44) hc (by omega) dX9_spreads_41 rfl rfl (fun c_41 => ?_) (fun c_41 => ?_)) | refine tt_ifeq (t := 103) (q := 44) hc dX9_spreads_41 rfl rfl (fun c_41 => ?_) (fun c_41 => ?_)
          · cases c_41
          · refine tt_al0 (q := 45) hc dX9_spreads_44 rfl ?_
            refine tt_getR (q := 48) hc fl_X9_31 (by first | assumption | exact ⟨by decide, _, rfl, rfl⟩) dX9_spreads_45 rfl ?_
            refine tt_il4 (q := 50) hc dX9_spreads_48 rfl ?_
            refine tt_iald (q := 51) hc (by first | assumption | exact ⟨by decide, rfl, by decide⟩) (by omega) dX9_spreads_50 rfl ?_
            rw [hFQ s (by omega), hvs]
            refine tt_ifge (t := 103) (q := 54) hc dX9_spreads_51 rfl rfl (fun c_51 => ?_) (fun c_51 => ?_)
            · first | refine tt_inc4 (q := 106) hc dX9_spreads_103 rfl (by decide) (incN _) ?_ | refine tt_inc4 (q := 106) hc dX9_spreads_103 rfl (by decide) rfl ?_
              refine tt_goto (t := 26) hc dX9_spreads_106 rfl ?_
              exact ih (s + 1) v0 st ν (by omega) (by omega) hPI hDB hFQ hPL hk hv hBA hz h
            · exact absurd (show (0 : Int32) ≤ nI x.1 from nI_pos' hdx) c_51
      | none =>
        have hlt : st.1.length < 70 := by have := hPI.1; have := cV_lt (hB.2 s hbs).1 hbs hvs; omega
        have hcs : cur ≠ s := fun e => by rw [e, hvs] at hv; cases hv
        refine tt_il4 (q := 28) hc dX9_spreads_26 rfl ?_
        refine tt_sipush (v := nI 256) (q := 31) hc (by decide) dX9_spreads_28 rfl ?_
        first | (with_reducible refine chk2 ?_; refine tt_icgeN (t := 109) (q := 34) hc (by omega) (by omega) dX9_spreads_31 rfl rfl (fun c_31 => ?_) (fun c_31 => ?_)) | refine tt_icge (t := 109) (q := 34) hc dX9_spreads_31 rfl rfl (fun c_31 => ?_) (fun c_31 => ?_)
        · omega
        · refine tt_al0 (q := 35) hc dX9_spreads_34 rfl ?_
          refine tt_getR (q := 38) hc fl_X9_15 (by first | assumption | exact ⟨by decide, _, rfl, rfl⟩) dX9_spreads_35 rfl ?_
          refine tt_il4 (q := 40) hc dX9_spreads_38 rfl ?_
          refine tt_zald (q := 41) hc (by first | assumption | exact ⟨by decide, rfl, by decide⟩) (by omega) dX9_spreads_40 rfl ?_
          rw [hBA s (by omega), hbs]
          first | (with_reducible refine chkb ?_; refine tt_ifeqB (t := 103) (q := 44) hc dX9_spreads_41 rfl rfl (fun c_41 => ?_) (fun c_41 => ?_)) | (with_reducible refine chk1 ?_; refine tt_ifeqN (t := 103) (q := 44) hc (by omega) dX9_spreads_41 rfl rfl (fun c_41 => ?_) (fun c_41 => ?_)) | refine tt_ifeq (t := 103) (q := 44) hc dX9_spreads_41 rfl rfl (fun c_41 => ?_) (fun c_41 => ?_)
          · cases c_41
          · refine tt_al0 (q := 45) hc dX9_spreads_44 rfl ?_
            refine tt_getR (q := 48) hc fl_X9_31 (by first | assumption | exact ⟨by decide, _, rfl, rfl⟩) dX9_spreads_45 rfl ?_
            refine tt_il4 (q := 50) hc dX9_spreads_48 rfl ?_
            refine tt_iald (q := 51) hc (by first | assumption | exact ⟨by decide, rfl, by decide⟩) (by omega) dX9_spreads_50 rfl ?_
            rw [hFQ s (by omega), hvs]
            refine tt_ifge (t := 103) (q := 54) hc dX9_spreads_51 rfl rfl (fun c_51 => ?_) (fun c_51 => ?_)
            · exact absurd c_51 (by decide)
            · refine tt_al0 (q := 55) hc dX9_spreads_54 rfl ?_
              refine tt_al0 (q := 56) hc dX9_spreads_55 rfl ?_
              refine tt_getR (q := 59) hc fl_X9_34 (by first | assumption | exact ⟨by decide, _, rfl, rfl⟩) dX9_spreads_56 rfl ?_
              refine tt_il3 (q := 60) hc dX9_spreads_59 rfl ?_
              refine tt_iald (q := 61) hc (by first | assumption | exact ⟨by decide, rfl, by decide⟩) (by omega) dX9_spreads_60 rfl ?_
              rw [hPL k cur hk]
              refine tt_il4 (q := 63) hc dX9_spreads_61 rfl ?_
              refine tt_cV2 (q := 66) (d' := 2) (ci := 9) hc (by first | decide | omega) kmX9_areBeside ml_X9_171 (by first | assumption | exact ⟨by decide, _, rfl⟩) rfl (Nat.le_of_ble_eq_true rfl) dX9_spreads_63 rfl ?_
              refine c_X9_areBeside hK hz hcl ?_
              dsimp only [Option.toList, List.nil_append, List.cons_append]
              first | (with_reducible refine chkb ?_; refine tt_ifneB (t := 72) (q := 69) hc dX9_spreads_66 rfl rfl (fun c_66 => ?_) (fun c_66 => ?_)) | (with_reducible refine chk1 ?_; refine tt_ifneN (t := 72) (q := 69) hc (by omega) dX9_spreads_66 rfl rfl (fun c_66 => ?_) (fun c_66 => ?_)) | refine tt_ifne (t := 72) (q := 69) hc dX9_spreads_66 rfl rfl (fun c_66 => ?_) (fun c_66 => ?_)
              · refine tt_al0 (q := 73) hc dX9_spreads_72 rfl ?_
                refine tt_getR (q := 76) hc fl_X9_31 (by first | assumption | exact ⟨by decide, _, rfl, rfl⟩) dX9_spreads_73 rfl ?_
                refine tt_il4 (q := 78) hc dX9_spreads_76 rfl ?_
                refine tt_al0 (q := 79) hc dX9_spreads_78 rfl ?_
                refine tt_getR (q := 82) hc fl_X9_31 (by first | assumption | exact ⟨by decide, _, rfl, rfl⟩) dX9_spreads_79 rfl ?_
                refine tt_al0 (q := 83) hc dX9_spreads_82 rfl ?_
                refine tt_getR (q := 86) hc fl_X9_34 (by first | assumption | exact ⟨by decide, _, rfl, rfl⟩) dX9_spreads_83 rfl ?_
                refine tt_il3 (q := 87) hc dX9_spreads_86 rfl ?_
                refine tt_iald (q := 88) hc (by first | assumption | exact ⟨by decide, rfl, by decide⟩) (by omega) dX9_spreads_87 rfl ?_
                rw [hPL k cur hk]
                refine tt_iald (q := 89) hc (by first | assumption | exact ⟨by decide, rfl, by decide⟩) (by omega) dX9_spreads_88 rfl ?_
                rw [hFQ cur hcl, hv, show vI Prod.fst (some (dc, sc)) = nI dc from rfl]
                refine tt_iconst (v := nI 1) (q := 90) hc rfl dX9_spreads_89 rfl ?_
                first | (with_reducible refine chk2 ?_; refine tt_iaddN (q := 91) hc dX9_spreads_90 rfl ?_) | refine tt_iadd (q := 91) hc dX9_spreads_90 rfl ?_
                refine tt_iast (q := 92) hc (by first | assumption | exact ⟨by decide, rfl, by decide⟩) (by omega) dX9_spreads_91 rfl ?_
                refine tt_al0 (q := 93) hc dX9_spreads_92 rfl ?_
                refine tt_getR (q := 96) hc fl_X9_34 (by first | assumption | exact ⟨by decide, _, rfl, rfl⟩) dX9_spreads_93 rfl ?_
                refine tt_il2 (q := 97) hc dX9_spreads_96 rfl ?_
                refine tt_il4 (q := 99) hc dX9_spreads_97 rfl ?_
                refine tt_iast (q := 100) hc (by first | assumption | exact ⟨by decide, rfl, by decide⟩) (by omega) dX9_spreads_99 rfl ?_
                first | refine tt_inc2 (q := 103) hc dX9_spreads_100 rfl (by decide) (incN _) ?_ | refine tt_inc2 (q := 103) hc dX9_spreads_100 rfl (by decide) rfl ?_
                first | refine tt_inc4 (q := 106) hc dX9_spreads_103 rfl (by decide) (incN _) ?_ | refine tt_inc4 (q := 106) hc dX9_spreads_103 rfl (by decide) rfl ?_
                refine tt_goto (t := 26) hc dX9_spreads_106 rfl ?_
                first
                | (have z : bsd K cur s = false := c_66
                   rw [if_neg (fun y => by rw [z] at y; cases y.2)] at h
                   exact ih (s + 1) v0 st ν (by omega) (by omega) hPI hDB hFQ hPL hk hv hBA hz h)
                | (have z : bsd K cur s = true := c_66
                   rw [if_pos ⟨hvs, z⟩] at h
                   rw [← snoc_len st.1 s]
                   have hfa : frm [28, 29] ν (mset (mset ν 28 (upd (ν 28) s (nI (dc + 1)))) 29 (upd (mset ν 28 (upd (ν 28) s (nI (dc + 1))) 29) st.1.length (nI s))) := ((frm.set (i := 28)).mono (by simp)).tr ((frm.set (i := 29)).mono (by simp))
                   exact ih (s + 1) v0 (st.1 ++ [s], vset st.2 s (dc + 1, if sam cur s = true then sc else 1 - sc)) _ (by omega) (by omega) (hPI.push hB hbs hvs) (hDB.set (hB.2 s hbs).1 hbs hvs (hDB cur dc sc hv)) (hFQ.set (by rw [mset_ne (by decide), mset_eq])) (hPL.push (by rw [mset_eq, mset_ne (by decide)])) (at_push hk) (by show vset st.2 s _ cur = _; rw [vset_ne hcs]; exact hv) (hBA.fr hfa (by decide)) (by rw [hfa 24 (by decide)]; exact hz) (fun ν' w hf => h ν' w (hfa.tr hf)))
              · refine tt_goto (t := 103) hc dX9_spreads_69 rfl ?_
                first | refine tt_inc4 (q := 106) hc dX9_spreads_103 rfl (by decide) (incN _) ?_ | refine tt_inc4 (q := 106) hc dX9_spreads_103 rfl (by decide) rfl ?_
                refine tt_goto (t := 26) hc dX9_spreads_106 rfl ?_
                first
                | (have z : bsd K cur s = false := c_66
                   rw [if_neg (fun y => by rw [z] at y; cases y.2)] at h
                   exact ih (s + 1) v0 st ν (by omega) (by omega) hPI hDB hFQ hPL hk hv hBA hz h)
                | (have z : bsd K cur s = true := c_66
                   rw [if_pos ⟨hvs, z⟩] at h
                   rw [← snoc_len st.1 s]
                   have hfa : frm [28, 29] ν (mset (mset ν 28 (upd (ν 28) s (nI (dc + 1)))) 29 (upd (mset ν 28 (upd (ν 28) s (nI (dc + 1))) 29) st.1.length (nI s))) := ((frm.set (i := 28)).mono (by simp)).tr ((frm.set (i := 29)).mono (by simp))
                   exact ih (s + 1) v0 (st.1 ++ [s], vset st.2 s (dc + 1, if sam cur s = true then sc else 1 - sc)) _ (by omega) (by omega) (hPI.push hB hbs hvs) (hDB.set (hB.2 s hbs).1 hbs hvs (hDB cur dc sc hv)) (hFQ.set (by rw [mset_ne (by decide), mset_eq])) (hPL.push (by rw [mset_eq, mset_ne (by decide)])) (at_push hk) (by show vset st.2 s _ cur = _; rw [vset_ne hcs]; exact hv) (hBA.fr hfa (by decide)) (by rw [hfa 24 (by decide)]; exact hz) (fun ν' w hf => h ν' w (hfa.tr hf)))
set_option maxHeartbeats 2000000 in
theorem m_outer {l : Launch} {K : Nat} {B : HP} {Q : Option Value → Mem → Prop} {X : XT} (hX : Cm X l 3 mX9_spreads Q) (hB : HOK K B) {from_ : Nat} :
    ∀ (f k v0 : Nat) (st : List Nat × Vis) (ν : Mem) (w4 : Value), k + f = 256 → PI B st v0 → DB B st.2 → FQ Prod.fst ν st.2 → PL ν st.1 → BA ν 77 B → ν 24 0 = nI K →
      (∀ (ν' : Mem), frm [28, 29] ν ν' → DB B (bfs K (bl B) f k st).2 → FQ Prod.fst ν' (bfs K (bl B) f k st).2 → Q none ν') →
      TT X 18 [.ref 24, .int (nI from_), .int (nI st.1.length), .int (nI k), w4] [] ν := by
  have hc := hX.cx
  have htot := tot_le hB
  intro f
  induction f with
  | zero =>
    intro k v0 st ν w4 hk hPI hDB hFQ hPL hBA hz h
    have hpl : st.1.length ≤ tot B := by have := hPI.1; have := cV_le (B := B) (v := st.2); omega
    refine tt_il3 (q := 19) hc dX9_spreads_18 rfl ?_
    refine tt_il2 (q := 20) hc dX9_spreads_19 rfl ?_
    first | (with_reducible refine chk2 ?_; refine tt_icgeN (t := 115) (q := 23) hc (by omega) (by omega) dX9_spreads_20 rfl rfl (fun c_20 => ?_) (fun c_20 => ?_)) | refine tt_icge (t := 115) (q := 23) hc dX9_spreads_20 rfl rfl (fun c_20 => ?_) (fun c_20 => ?_)
    · refine tt_retv hX rfl dX9_spreads_115 ?_
      exact h ν frm.rf hDB hFQ
    · omega
  | succ f ih =>
    intro k v0 st ν w4 hk hPI hDB hFQ hPL hBA hz h
    have hpl : st.1.length ≤ tot B := by have := hPI.1; have := cV_le (B := B) (v := st.2); omega
    rw [bfs] at h
    by_cases hkl : k < st.1.length
    · have e1 : st.1[k]? = some st.1[k] := List.getElem?_eq_getElem hkl
      obtain ⟨Bc, ⟨dc, sc⟩, hv⟩ := hPI.2 _ (List.mem_of_getElem? e1)
      simp only [e1, hv] at h
      refine tt_il3 (q := 19) hc dX9_spreads_18 rfl ?_
      refine tt_il2 (q := 20) hc dX9_spreads_19 rfl ?_
      first | (with_reducible refine chk2 ?_; refine tt_icgeN (t := 115) (q := 23) hc (by omega) (by omega) dX9_spreads_20 rfl rfl (fun c_20 => ?_) (fun c_20 => ?_)) | refine tt_icge (t := 115) (q := 23) hc dX9_spreads_20 rfl rfl (fun c_20 => ?_) (fun c_20 => ?_)
      · omega
      · refine tt_iconst (v := nI 1) (q := 24) hc rfl dX9_spreads_23 rfl ?_
        refine tt_is4 (q := 26) hc dX9_spreads_24 rfl (by decide) ?_
        refine m_inner hX hB (hB.2 _ Bc).1 255 1 v0 st ν rfl (by decide) hPI hDB hFQ hPL e1 hv hBA hz (fun ν' w hf i1 i2 i3 i4 => ?_)
        refine tt_inc3 (q := 112) hc dX9_spreads_109 rfl (by decide) (incN _) ?_
        refine tt_goto (t := 18) hc dX9_spreads_112 rfl ?_
        exact ih (k + 1) v0 _ ν' _ (by omega) i1 i2 i3 i4 (hBA.fr hf (by decide)) (by rw [hf 24 (by decide)]; exact hz) (fun ν'' hf'' => h ν'' (hf.tr hf''))
    · have e1 : st.1[k]? = none := List.getElem?_eq_none (by omega)
      simp only [e1] at h
      refine tt_il3 (q := 19) hc dX9_spreads_18 rfl ?_
      refine tt_il2 (q := 20) hc dX9_spreads_19 rfl ?_
      first | (with_reducible refine chk2 ?_; refine tt_icgeN (t := 115) (q := 23) hc (by omega) (by omega) dX9_spreads_20 rfl rfl (fun c_20 => ?_) (fun c_20 => ?_)) | refine tt_icge (t := 115) (q := 23) hc dX9_spreads_20 rfl rfl (fun c_20 => ?_) (fun c_20 => ?_)
      · refine tt_retv hX rfl dX9_spreads_115 ?_
        exact h ν frm.rf hDB hFQ
      · omega
set_option maxHeartbeats 2000000 in
theorem c_X9_spreads {l : Launch} {K : Nat} {B : HP} {v : Vis} {s0 : Nat} {μ : Mem} {Q : Option Value → Mem → Prop} (hB : HOK K B) (hBA : BA μ 77 B) (hz : μ 24 0 = nI K) (hs : B s0 = true) (hv : v s0 = none) (hDB : DB B v) (hFQ : FQ Prod.fst μ v) (hQ : ∀ ν', frm [28, 29] μ ν' → DB B (bfsR K (bl B) v s0) → FQ Prod.fst ν' (bfsR K (bl B) v s0) → Q none ν') : CC l 3 mX9_spreads [.ref 24, .int (nI s0)] μ Q := by
  refine CC.of (M := mX9_spreads) (by decide +kernel) rfl (fun v h => by simp at h; rcases h with rfl | rfl <;> rfl) (Nat.le_of_ble_eq_true rfl) (fun X hX => ?_)
  have hc := hX.cx
  have htot := tot_le hB
  have a28 := HA28
  have a29 := HA29
  have hlt := (hB.2 s0 hs).1
  have hfa : frm [28, 29] μ (mset (mset μ 29 (upd (μ 29) 0 (nI s0))) 28 (upd (mset μ 29 (upd (μ 29) 0 (nI s0)) 28) s0 (nI 0))) := ((frm.set (i := 29)).mono (by simp)).tr ((frm.set (i := 28)).mono (by simp))
  refine tt_iconst (v := nI 1) (q := 1) hc rfl dX9_spreads_0 rfl ?_
  refine tt_is2 (q := 2) hc dX9_spreads_1 rfl (by decide) ?_
  refine tt_al0 (q := 3) hc dX9_spreads_2 rfl ?_
  refine tt_getR (q := 6) hc fl_X9_34 (by first | assumption | exact ⟨by decide, _, rfl, rfl⟩) dX9_spreads_3 rfl ?_
  refine tt_iconst (v := nI 0) (q := 7) hc rfl dX9_spreads_6 rfl ?_
  refine tt_il1 (q := 8) hc dX9_spreads_7 rfl ?_
  refine tt_iast (q := 9) hc (by first | assumption | exact ⟨by decide, rfl, by decide⟩) (by omega) dX9_spreads_8 rfl ?_
  refine tt_al0 (q := 10) hc dX9_spreads_9 rfl ?_
  refine tt_getR (q := 13) hc fl_X9_31 (by first | assumption | exact ⟨by decide, _, rfl, rfl⟩) dX9_spreads_10 rfl ?_
  refine tt_il1 (q := 14) hc dX9_spreads_13 rfl ?_
  refine tt_iconst (v := nI 0) (q := 15) hc rfl dX9_spreads_14 rfl ?_
  refine tt_iast (q := 16) hc (by first | assumption | exact ⟨by decide, rfl, by decide⟩) (by omega) dX9_spreads_15 rfl ?_
  refine tt_iconst (v := nI 0) (q := 17) hc rfl dX9_spreads_16 rfl ?_
  refine tt_is3 (q := 18) hc dX9_spreads_17 rfl (by decide) ?_
  refine m_outer hX hB 256 0 (cV B v) ([s0], vset v s0 (0, 0)) _ _ rfl ⟨?_, fun t ht => ?_⟩ (hDB.set hlt hs hv (Nat.zero_le _)) (hFQ.set (by rw [mset_eq, mset_ne (by decide)])) (fun k s hk => ?_) (hBA.fr hfa (by decide)) (by rw [hfa 24 (by decide)]; exact hz) (fun ν' hf i1 i2 => hQ ν' (hfa.tr hf) i1 i2)
  · rw [cV_set hlt hs hv]
    simp
    omega
  · have e := List.mem_singleton.mp ht
    rw [e]
    exact ⟨hs, _, vset_eq⟩
  · cases k with
    | zero =>
      simp only [List.getElem?_cons_zero, Option.some.injEq] at hk
      rw [← hk, mset_ne (by decide), mset_eq, pk_us]
    | succ k => simp at hk
set_option maxHeartbeats 2000000 in
theorem c_X9_parts {l : Launch} {K : Nat} {B : HP} {μ : Mem} {Q : Option Value → Mem → Prop} (hB : HOK K B) (hBA : BA μ 77 B) (hz : μ 24 0 = nI K) (hQ : ∀ ν', frm [28, 29] μ ν' → Q (some (.int (nI (ptsA K B).2))) ν') : CC l 4 mX9_parts [.ref 24] μ Q := by
  refine CC.of (M := mX9_parts) (by decide +kernel) rfl (fun v h => by simp at h; subst h; rfl) (Nat.le_of_ble_eq_true rfl) (fun X hX => ?_)
  have hc := hX.cx
  have htot := tot_le hB
  have a28 := HA28
  have a77 := HA77
  have L2 : ∀ (m s n : Nat) (v : Vis) (ν : Mem), s + m = 256 → 0 < s → frm [28, 29] μ ν → DB B v → FQ Prod.fst ν v → (∀ ν', frm [28, 29] μ ν' → Q (some (.int (nI (ptl K (bl B) (blF B m s) v n).2))) ν') → TT X 26 [.ref 24, .int (nI n), .int (nI s)] [] ν := by
    intro m
    induction m with
    | zero =>
      intro s n v ν hs h0 hf hDB hFQ h
      refine tt_il2 (q := 27) hc dX9_parts_26 rfl ?_
      refine tt_sipush (v := nI 256) (q := 30) hc (by decide) dX9_parts_27 rfl ?_
      first | (with_reducible refine chk2 ?_; refine tt_icgeN (t := 68) (q := 33) hc (by omega) (by omega) dX9_parts_30 rfl rfl (fun c_30 => ?_) (fun c_30 => ?_)) | refine tt_icge (t := 68) (q := 33) hc dX9_parts_30 rfl rfl (fun c_30 => ?_) (fun c_30 => ?_)
      · refine tt_il1 (q := 69) hc dX9_parts_68 rfl ?_
        refine tt_reti hX rfl dX9_parts_69 ?_
        exact h ν hf
      · omega
    | succ m ih =>
      intro s n v ν hs h0 hf hDB hFQ h
      have hBA := hBA.fr hf (by decide)
      have hz2 : ν 24 0 = nI K := by rw [hf 24 (by decide)]; exact hz
      rw [blF] at h
      cases hbs : B s with
      | false =>
        rw [hbs, if_neg Bool.false_ne_true] at h
        refine tt_il2 (q := 27) hc dX9_parts_26 rfl ?_
        refine tt_sipush (v := nI 256) (q := 30) hc (by decide) dX9_parts_27 rfl ?_
        first | (with_reducible refine chk2 ?_; refine tt_icgeN (t := 68) (q := 33) hc (by omega) (by omega) dX9_parts_30 rfl rfl (fun c_30 => ?_) (fun c_30 => ?_)) | refine tt_icge (t := 68) (q := 33) hc dX9_parts_30 rfl rfl (fun c_30 => ?_) (fun c_30 => ?_)
        · omega
        · refine tt_al0 (q := 34) hc dX9_parts_33 rfl ?_
          refine tt_getR (q := 37) hc fl_X9_15 (by first | assumption | exact ⟨by decide, _, rfl, rfl⟩) dX9_parts_34 rfl ?_
          refine tt_il2 (q := 38) hc dX9_parts_37 rfl ?_
          refine tt_zald (q := 39) hc (by first | assumption | exact ⟨by decide, rfl, by decide⟩) (by omega) dX9_parts_38 rfl ?_
          rw [hBA s (by omega), hbs]
          first | (with_reducible refine chkb ?_; refine tt_ifeqB (t := 62) (q := 42) hc dX9_parts_39 rfl rfl (fun c_39 => ?_) (fun c_39 => ?_)) | (with_reducible refine chk1 ?_; refine tt_ifeqN (t := 62) (q := 42) hc (by omega) dX9_parts_39 rfl rfl (fun c_39 => ?_) (fun c_39 => ?_)) | refine tt_ifeq (t := 62) (q := 42) hc dX9_parts_39 rfl rfl (fun c_39 => ?_) (fun c_39 => ?_)
          · first | refine tt_inc2 (q := 65) hc dX9_parts_62 rfl (by decide) (incN _) ?_ | refine tt_inc2 (q := 65) hc dX9_parts_62 rfl (by decide) rfl ?_
            refine tt_goto (t := 26) hc dX9_parts_65 rfl ?_
            exact ih (s + 1) n v ν (by omega) (by omega) hf hDB hFQ h
          · cases c_39
      | true =>
        rw [hbs, if_pos rfl, ptl] at h
        cases hvs : v s with
        | some x =>
          rw [if_neg (by rw [hvs]; exact fun z => by cases z)] at h
          have hdx : x.1 < 2 ^ 31 := by have := hDB s x.1 x.2 hvs; have := cV_le (B := B) (v := v); omega
          refine tt_il2 (q := 27) hc dX9_parts_26 rfl ?_
          refine tt_sipush (v := nI 256) (q := 30) hc (by decide) dX9_parts_27 rfl ?_
          first | (with_reducible refine chk2 ?_; refine tt_icgeN (t := 68) (q := 33) hc (by omega) (by omega) dX9_parts_30 rfl rfl (fun c_30 => ?_) (fun c_30 => ?_)) | refine tt_icge (t := 68) (q := 33) hc dX9_parts_30 rfl rfl (fun c_30 => ?_) (fun c_30 => ?_)
          · omega
          · refine tt_al0 (q := 34) hc dX9_parts_33 rfl ?_
            refine tt_getR (q := 37) hc fl_X9_15 (by first | assumption | exact ⟨by decide, _, rfl, rfl⟩) dX9_parts_34 rfl ?_
            refine tt_il2 (q := 38) hc dX9_parts_37 rfl ?_
            refine tt_zald (q := 39) hc (by first | assumption | exact ⟨by decide, rfl, by decide⟩) (by omega) dX9_parts_38 rfl ?_
            rw [hBA s (by omega), hbs]
            first | (with_reducible refine chkb ?_; refine tt_ifeqB (t := 62) (q := 42) hc dX9_parts_39 rfl rfl (fun c_39 => ?_) (fun c_39 => ?_)) | (with_reducible refine chk1 ?_; refine tt_ifeqN (t := 62) (q := 42) hc (by omega) dX9_parts_39 rfl rfl (fun c_39 => ?_) (fun c_39 => ?_)) | refine tt_ifeq (t := 62) (q := 42) hc dX9_parts_39 rfl rfl (fun c_39 => ?_) (fun c_39 => ?_)
            · cases c_39
            · refine tt_al0 (q := 43) hc dX9_parts_42 rfl ?_
              refine tt_getR (q := 46) hc fl_X9_31 (by first | assumption | exact ⟨by decide, _, rfl, rfl⟩) dX9_parts_43 rfl ?_
              refine tt_il2 (q := 47) hc dX9_parts_46 rfl ?_
              refine tt_iald (q := 48) hc (by first | assumption | exact ⟨by decide, rfl, by decide⟩) (by omega) dX9_parts_47 rfl ?_
              rw [hFQ s (by omega), hvs]
              refine tt_iflt (t := 54) (q := 51) hc dX9_parts_48 rfl rfl (fun c_48 => ?_) (fun c_48 => ?_)
              · exact absurd c_48 (nI_pos hdx)
              · refine tt_goto (t := 62) hc dX9_parts_51 rfl ?_
                first | refine tt_inc2 (q := 65) hc dX9_parts_62 rfl (by decide) (incN _) ?_ | refine tt_inc2 (q := 65) hc dX9_parts_62 rfl (by decide) rfl ?_
                refine tt_goto (t := 26) hc dX9_parts_65 rfl ?_
                exact ih (s + 1) n v ν (by omega) (by omega) hf hDB hFQ h
        | none =>
          rw [if_pos hvs] at h
          refine tt_il2 (q := 27) hc dX9_parts_26 rfl ?_
          refine tt_sipush (v := nI 256) (q := 30) hc (by decide) dX9_parts_27 rfl ?_
          first | (with_reducible refine chk2 ?_; refine tt_icgeN (t := 68) (q := 33) hc (by omega) (by omega) dX9_parts_30 rfl rfl (fun c_30 => ?_) (fun c_30 => ?_)) | refine tt_icge (t := 68) (q := 33) hc dX9_parts_30 rfl rfl (fun c_30 => ?_) (fun c_30 => ?_)
          · omega
          · refine tt_al0 (q := 34) hc dX9_parts_33 rfl ?_
            refine tt_getR (q := 37) hc fl_X9_15 (by first | assumption | exact ⟨by decide, _, rfl, rfl⟩) dX9_parts_34 rfl ?_
            refine tt_il2 (q := 38) hc dX9_parts_37 rfl ?_
            refine tt_zald (q := 39) hc (by first | assumption | exact ⟨by decide, rfl, by decide⟩) (by omega) dX9_parts_38 rfl ?_
            rw [hBA s (by omega), hbs]
            first | (with_reducible refine chkb ?_; refine tt_ifeqB (t := 62) (q := 42) hc dX9_parts_39 rfl rfl (fun c_39 => ?_) (fun c_39 => ?_)) | (with_reducible refine chk1 ?_; refine tt_ifeqN (t := 62) (q := 42) hc (by omega) dX9_parts_39 rfl rfl (fun c_39 => ?_) (fun c_39 => ?_)) | refine tt_ifeq (t := 62) (q := 42) hc dX9_parts_39 rfl rfl (fun c_39 => ?_) (fun c_39 => ?_)
            · cases c_39
            · refine tt_al0 (q := 43) hc dX9_parts_42 rfl ?_
              refine tt_getR (q := 46) hc fl_X9_31 (by first | assumption | exact ⟨by decide, _, rfl, rfl⟩) dX9_parts_43 rfl ?_
              refine tt_il2 (q := 47) hc dX9_parts_46 rfl ?_
              refine tt_iald (q := 48) hc (by first | assumption | exact ⟨by decide, rfl, by decide⟩) (by omega) dX9_parts_47 rfl ?_
              rw [hFQ s (by omega), hvs]
              refine tt_iflt (t := 54) (q := 51) hc dX9_parts_48 rfl rfl (fun c_48 => ?_) (fun c_48 => ?_)
              · refine tt_al0 (q := 55) hc dX9_parts_54 rfl ?_
                refine tt_il2 (q := 56) hc dX9_parts_55 rfl ?_
                refine tt_cV1 (q := 59) (d' := 3) (ci := 9) hc (by first | decide | omega) kmX9_spreads ml_X9_174 (by first | assumption | exact ⟨by decide, _, rfl⟩) rfl (Nat.le_of_ble_eq_true rfl) dX9_parts_56 rfl ?_
                refine c_X9_spreads hB hBA hz2 hbs hvs hDB hFQ (fun ν' hf' i1 i2 => ?_)
                dsimp only [Option.toList, List.nil_append, List.cons_append]
                first | refine tt_inc1 (q := 62) hc dX9_parts_59 rfl (by decide) (incN _) ?_ | refine tt_inc1 (q := 62) hc dX9_parts_59 rfl (by decide) rfl ?_
                first | refine tt_inc2 (q := 65) hc dX9_parts_62 rfl (by decide) (incN _) ?_ | refine tt_inc2 (q := 65) hc dX9_parts_62 rfl (by decide) rfl ?_
                refine tt_goto (t := 26) hc dX9_parts_65 rfl ?_
                exact ih (s + 1) (n + 1) _ ν' (by omega) (by omega) (hf.tr hf') i1 i2 h
              · exact absurd (by decide) c_48
  have L1 : ∀ (m s : Nat) (ν : Mem), s + m = 256 → frm [28, 29] μ ν → (∀ t, t < s → ν 28 t = -1) → TT X 2 [.ref 24, .int (nI s), .long 0] [] ν := by
    intro m
    induction m with
    | zero =>
      intro s ν hs hf hv
      refine tt_il1 (q := 3) hc dX9_parts_2 rfl ?_
      refine tt_sipush (v := nI 256) (q := 6) hc (by decide) dX9_parts_3 rfl ?_
      first | (with_reducible refine chk2 ?_; refine tt_icgeN (t := 22) (q := 9) hc (by omega) (by omega) dX9_parts_6 rfl rfl (fun c_6 => ?_) (fun c_6 => ?_)) | refine tt_icge (t := 22) (q := 9) hc dX9_parts_6 rfl rfl (fun c_6 => ?_) (fun c_6 => ?_)
      · refine tt_iconst (v := nI 0) (q := 23) hc rfl dX9_parts_22 rfl ?_
        refine tt_is1 (q := 24) hc dX9_parts_23 rfl (by decide) ?_
        refine tt_iconst (v := nI 1) (q := 25) hc rfl dX9_parts_24 rfl ?_
        refine tt_is2 (q := 26) hc dX9_parts_25 rfl (by decide) ?_
        exact L2 255 1 0 vis0 ν rfl (by decide) hf (fun s d g h => by cases h) (fun t ht => hv t (by omega)) hQ
      · omega
    | succ m ih =>
      intro s ν hs hf hv
      refine tt_il1 (q := 3) hc dX9_parts_2 rfl ?_
      refine tt_sipush (v := nI 256) (q := 6) hc (by decide) dX9_parts_3 rfl ?_
      first | (with_reducible refine chk2 ?_; refine tt_icgeN (t := 22) (q := 9) hc (by omega) (by omega) dX9_parts_6 rfl rfl (fun c_6 => ?_) (fun c_6 => ?_)) | refine tt_icge (t := 22) (q := 9) hc dX9_parts_6 rfl rfl (fun c_6 => ?_) (fun c_6 => ?_)
      · omega
      · refine tt_al0 (q := 10) hc dX9_parts_9 rfl ?_
        refine tt_getR (q := 13) hc fl_X9_31 (by first | assumption | exact ⟨by decide, _, rfl, rfl⟩) dX9_parts_10 rfl ?_
        refine tt_il1 (q := 14) hc dX9_parts_13 rfl ?_
        refine tt_iconst (v := -1) (q := 15) hc rfl dX9_parts_14 rfl ?_
        refine tt_iast (q := 16) hc (by first | assumption | exact ⟨by decide, rfl, by decide⟩) (by omega) dX9_parts_15 rfl ?_
        first | refine tt_inc1 (q := 19) hc dX9_parts_16 rfl (by decide) (incN _) ?_ | refine tt_inc1 (q := 19) hc dX9_parts_16 rfl (by decide) rfl ?_
        refine tt_goto (t := 2) hc dX9_parts_19 rfl ?_
        refine ih (s + 1) _ (by omega) (hf.tr ((frm.set (i := 28)).mono (by simp))) (fun t ht => ?_)
        rw [mset_eq]
        by_cases e : t = s
        · rw [e, pk_us]
        · rw [pk_un e]
          exact hv t (by omega)
  refine tt_iconst (v := nI 0) (q := 1) hc rfl dX9_parts_0 rfl ?_
  refine tt_is1 (q := 2) hc dX9_parts_1 rfl (by decide) ?_
  exact L1 256 0 μ rfl frm.rf (fun t ht => absurd ht (Nat.not_lt_zero _))
theorem nth_bl (B : HP) : ∀ n s i, nth B n s i = (blF B n s)[i]?
  | 0, _, _ => by
    rw [nth, blF]
    rfl
  | n + 1, s, i => by
    rw [nth, blF]
    by_cases c : B s = true
    · rw [if_pos c, if_pos c]
      cases i with
      | zero => rw [if_pos rfl]; rfl
      | succ i => rw [if_neg (Nat.succ_ne_zero i), List.getElem?_cons_succ, Nat.add_sub_cancel]; exact nth_bl B n (s + 1) i
    · rw [if_neg c, if_neg c]
      exact nth_bl B n (s + 1) i
set_option maxHeartbeats 1000000 in
theorem c_X9_bodyAt {l : Launch} {i : Int32} {S : ST} {μ : Mem} {Q : Option Value → Mem → Prop} (hM : MR μ S) (hQ : Q (some (.int (onI (idx S.2.1 i)))) μ) : CC l 1 mX9_bodyAt [.ref 24, .int i] μ Q := by
  refine CC.of (M := mX9_bodyAt) (by decide +kernel) rfl (fun v h => by simp at h; rcases h with rfl | rfl <;> rfl) (Nat.le_of_ble_eq_true rfl) (fun X hX => ?_)
  have hc := hX.cx
  have hM0 := hM
  obtain ⟨K, B, hs, ks, im, ls, tx, pp⟩ := S
  rw [idx] at hQ
  have E : 0 ≤ i → an_bodyOf i (K, B, hs, ks, im, ls, tx, pp) = onI (idx B i) := by
    intro h
    unfold an_bodyOf idx
    dsimp only
    rw [if_neg (Int32.not_lt.mpr h), if_neg (Int32.not_lt.mpr h), nth_bl, bl]
  refine tt_il1 (q := 1) hc dX9_bodyAt_0 rfl ?_
  refine tt_ifge (t := 9) (q := 4) hc dX9_bodyAt_1 rfl rfl (fun c_1 => ?_) (fun c_1 => ?_)
  · refine tt_al0 (q := 10) hc dX9_bodyAt_9 rfl ?_
    refine tt_il1 (q := 11) hc dX9_bodyAt_10 rfl ?_
    refine tt_cV1 (q := 14) (d' := 0) (ci := 9) hc (by first | decide | omega) kmX9_bodyOf ml_X9_178 (by first | assumption | exact ⟨by decide, _, rfl⟩) rfl (Nat.le_of_ble_eq_true rfl) dX9_bodyAt_11 rfl ?_
    refine c_X9_bodyOf hM0 ?_
    rw [E c_1, idx]
    dsimp only [Option.toList, List.nil_append, List.cons_append]
    refine tt_reti hX rfl dX9_bodyAt_14 ?_
    first
    | (rw [if_pos (Int32.not_le.mp c_1)] at hQ; exact hQ)
    | exact hQ
  · refine tt_bipush (v := -5) (q := 6) hc (by decide) dX9_bodyAt_4 rfl ?_
    refine tt_goto (t := 14) hc dX9_bodyAt_6 rfl ?_
    refine tt_reti hX rfl dX9_bodyAt_14 ?_
    first
    | (rw [if_pos (Int32.not_le.mp c_1)] at hQ; exact hQ)
    | exact hQ
set_option maxHeartbeats 2000000 in
theorem c_X9_apart {l : Launch} {i j : Int32} {S : ST} {μ : Mem} {Q : Option Value → Mem → Prop} (hM : MR μ S) (hQ : ∀ μ', frm mL μ μ' → MR μ' S → Q (some (.int (an_apart i j S))) μ') : CC l 4 mX9_apart [.ref 24, .int i, .int j] μ Q := by
  refine CC.of (M := mX9_apart) (by decide +kernel) rfl (fun v h => by simp at h; rcases h with rfl | rfl | rfl <;> rfl) (Nat.le_of_ble_eq_true rfl) (fun X hX => ?_)
  have hc := hX.cx
  have hM0 := hM
  obtain ⟨K, B, hs, ks, im, ls, tx, pp⟩ := S
  obtain ⟨⟨a0, a1, a2⟩, -⟩ := id hM
  have a28 := HA28
  have htot := tot_le a0
  dsimp only [an_apart] at hQ
  have hb : ∀ (x : Int32) (a : Nat), idx B x = some a → B a = true := by
    intro x a h
    unfold idx at h
    split at h
    · cases h
    · exact (bl_mem a0).mp (List.mem_of_getElem? h)
  cases e1 : idx B i with
  | none =>
    rw [e1] at hQ
    refine tt_al0 (q := 1) hc dX9_apart_0 rfl ?_
    refine tt_il1 (q := 2) hc dX9_apart_1 rfl ?_
    refine tt_cV1 (q := 5) (d' := 1) (ci := 9) hc (by first | decide | omega) kmX9_bodyAt ml_X9_181 (by first | assumption | exact ⟨by decide, _, rfl⟩) rfl (Nat.le_of_ble_eq_true rfl) dX9_apart_2 rfl ?_
    refine c_X9_bodyAt hM0 ?_
    rw [e1]
    dsimp only [Option.toList, List.nil_append, List.cons_append]
    refine tt_is3 (q := 6) hc dX9_apart_5 rfl (by decide) ?_
    refine tt_al0 (q := 7) hc dX9_apart_6 rfl ?_
    refine tt_il2 (q := 8) hc dX9_apart_7 rfl ?_
    refine tt_cV1 (q := 11) (d' := 1) (ci := 9) hc (by first | decide | omega) kmX9_bodyAt ml_X9_181 (by first | assumption | exact ⟨by decide, _, rfl⟩) rfl (Nat.le_of_ble_eq_true rfl) dX9_apart_8 rfl ?_
    refine c_X9_bodyAt hM0 ?_
    dsimp only [Option.toList, List.nil_append, List.cons_append]
    refine tt_is4 (q := 13) hc dX9_apart_11 rfl (by decide) ?_
    refine tt_il3 (q := 14) hc dX9_apart_13 rfl ?_
    refine tt_iflt (t := 22) (q := 17) hc dX9_apart_14 rfl rfl (fun c_14 => ?_) (fun c_14 => ?_)
    · refine tt_iconst (v := -1) (q := 23) hc rfl dX9_apart_22 rfl ?_
      refine tt_reti hX rfl dX9_apart_23 ?_
      exact hQ μ frm.rf hM
    · exact absurd (by decide) c_14
  | some a =>
    have Ba := hb i a e1
    have la := (a0.2 a Ba).1
    cases e2 : idx B j with
    | none =>
      rw [e1, e2] at hQ
      refine tt_al0 (q := 1) hc dX9_apart_0 rfl ?_
      refine tt_il1 (q := 2) hc dX9_apart_1 rfl ?_
      refine tt_cV1 (q := 5) (d' := 1) (ci := 9) hc (by first | decide | omega) kmX9_bodyAt ml_X9_181 (by first | assumption | exact ⟨by decide, _, rfl⟩) rfl (Nat.le_of_ble_eq_true rfl) dX9_apart_2 rfl ?_
      refine c_X9_bodyAt hM0 ?_
      rw [e1]
      dsimp only [Option.toList, List.nil_append, List.cons_append]
      refine tt_is3 (q := 6) hc dX9_apart_5 rfl (by decide) ?_
      refine tt_al0 (q := 7) hc dX9_apart_6 rfl ?_
      refine tt_il2 (q := 8) hc dX9_apart_7 rfl ?_
      refine tt_cV1 (q := 11) (d' := 1) (ci := 9) hc (by first | decide | omega) kmX9_bodyAt ml_X9_181 (by first | assumption | exact ⟨by decide, _, rfl⟩) rfl (Nat.le_of_ble_eq_true rfl) dX9_apart_8 rfl ?_
      refine c_X9_bodyAt hM0 ?_
      rw [e2]
      dsimp only [Option.toList, List.nil_append, List.cons_append]
      refine tt_is4 (q := 13) hc dX9_apart_11 rfl (by decide) ?_
      refine tt_il3 (q := 14) hc dX9_apart_13 rfl ?_
      refine tt_iflt (t := 22) (q := 17) hc dX9_apart_14 rfl rfl (fun c_14 => ?_) (fun c_14 => ?_)
      · exact absurd c_14 (onI_nneg (by omega))
      · refine tt_il4 (q := 19) hc dX9_apart_17 rfl ?_
        refine tt_ifge (t := 24) (q := 22) hc dX9_apart_19 rfl rfl (fun c_19 => ?_) (fun c_19 => ?_)
        · exact absurd c_19 (by decide)
        · refine tt_iconst (v := -1) (q := 23) hc rfl dX9_apart_22 rfl ?_
          refine tt_reti hX rfl dX9_apart_23 ?_
          exact hQ μ frm.rf hM
    | some b =>
      have Bb := hb j b e2
      have lb := (a0.2 b Bb).1
      rw [e1, e2] at hQ
      have L1 : ∀ (m s : Nat) (ν : Mem), s + m = 256 → frm [28, 29] μ ν → (∀ t, t < s → ν 28 t = -1) → TT X 27 [.ref 24, .int i, .int j, .int (nI a), .int (nI b), .int (nI s)] [] ν := by
        intro m
        induction m with
        | zero =>
          intro s ν hs hf hv
          refine tt_il5 (q := 29) hc dX9_apart_27 rfl ?_
          refine tt_sipush (v := nI 256) (q := 32) hc (by decide) dX9_apart_29 rfl ?_
          first | (with_reducible refine chk2 ?_; refine tt_icgeN (t := 49) (q := 35) hc (by omega) (by omega) dX9_apart_32 rfl rfl (fun c_32 => ?_) (fun c_32 => ?_)) | refine tt_icge (t := 49) (q := 35) hc dX9_apart_32 rfl rfl (fun c_32 => ?_) (fun c_32 => ?_)
          · refine tt_al0 (q := 50) hc dX9_apart_49 rfl ?_
            refine tt_il3 (q := 51) hc dX9_apart_50 rfl ?_
            refine tt_cV1 (q := 54) (d' := 3) (ci := 9) hc (by first | decide | omega) kmX9_spreads ml_X9_174 (by first | assumption | exact ⟨by decide, _, rfl⟩) rfl (Nat.le_of_ble_eq_true rfl) dX9_apart_51 rfl ?_
            refine c_X9_spreads (v := vis0) a0 (a2.fr hf (by decide)) (by rw [hf 24 (by decide)]; exact a1) Ba rfl (fun s d g h => by cases h) (fun t ht => hv t (by omega)) (fun ν' hf' i1 i2 => ?_)
            have hfm : mf [28, 29] μ ν' := mf.fr (hf.tr hf') (by decide)
            have h := hQ ν' (hfm.ml (by decide)) (hM.wk hfm (by decide))
            have e3 := i2 b lb
            dsimp only at h
            unfold apt at h
            generalize hx : bfsR K (bl B) vis0 a b = x at h e3
            have hdx : ∀ y, x = some y → y.1 < 2 ^ 31 := fun y e => by
              rw [e] at hx
              have := i1 b y.1 y.2 hx
              have := cV_le (B := B) (v := bfsR K (bl B) vis0 a)
              omega
            dsimp only [Option.toList, List.nil_append, List.cons_append]
            refine tt_al0 (q := 55) hc dX9_apart_54 rfl ?_
            refine tt_getR (q := 58) hc fl_X9_31 (by first | assumption | exact ⟨by decide, _, rfl, rfl⟩) dX9_apart_55 rfl ?_
            refine tt_il4 (q := 60) hc dX9_apart_58 rfl ?_
            refine tt_iald (q := 61) hc (by first | assumption | exact ⟨by decide, rfl, by decide⟩) (by omega) dX9_apart_60 rfl ?_
            rw [e3]
            refine tt_ifge (t := 69) (q := 64) hc dX9_apart_61 rfl rfl (fun c_61 => ?_) (fun c_61 => ?_)
            · refine tt_al0 (q := 70) hc dX9_apart_69 rfl ?_
              refine tt_getR (q := 73) hc fl_X9_31 (by first | assumption | exact ⟨by decide, _, rfl, rfl⟩) dX9_apart_70 rfl ?_
              refine tt_il4 (q := 75) hc dX9_apart_73 rfl ?_
              refine tt_iald (q := 76) hc (by first | assumption | exact ⟨by decide, rfl, by decide⟩) (by omega) dX9_apart_75 rfl ?_
              first
              | rw [e3]
              | skip
              refine tt_reti hX rfl dX9_apart_76 ?_
              cases x with
              | none => first
                | exact h
                | exact absurd c_61 (by decide)
              | some y => first
                | exact h
                | exact absurd (nI_pos' (hdx y rfl)) c_61
            · refine tt_bipush (v := -5) (q := 66) hc (by decide) dX9_apart_64 rfl ?_
              refine tt_goto (t := 76) hc dX9_apart_66 rfl ?_
              first
              | rw [e3]
              | skip
              refine tt_reti hX rfl dX9_apart_76 ?_
              cases x with
              | none => first
                | exact h
                | exact absurd c_61 (by decide)
              | some y => first
                | exact h
                | exact absurd (nI_pos' (hdx y rfl)) c_61
          · omega
        | succ m ih =>
          intro s ν hs hf hv
          refine tt_il5 (q := 29) hc dX9_apart_27 rfl ?_
          refine tt_sipush (v := nI 256) (q := 32) hc (by decide) dX9_apart_29 rfl ?_
          first | (with_reducible refine chk2 ?_; refine tt_icgeN (t := 49) (q := 35) hc (by omega) (by omega) dX9_apart_32 rfl rfl (fun c_32 => ?_) (fun c_32 => ?_)) | refine tt_icge (t := 49) (q := 35) hc dX9_apart_32 rfl rfl (fun c_32 => ?_) (fun c_32 => ?_)
          · omega
          · refine tt_al0 (q := 36) hc dX9_apart_35 rfl ?_
            refine tt_getR (q := 39) hc fl_X9_31 (by first | assumption | exact ⟨by decide, _, rfl, rfl⟩) dX9_apart_36 rfl ?_
            refine tt_il5 (q := 41) hc dX9_apart_39 rfl ?_
            refine tt_iconst (v := -1) (q := 42) hc rfl dX9_apart_41 rfl ?_
            refine tt_iast (q := 43) hc (by first | assumption | exact ⟨by decide, rfl, by decide⟩) (by omega) dX9_apart_42 rfl ?_
            first | refine tt_inc5 (q := 46) hc dX9_apart_43 rfl (by decide) (incN _) ?_ | refine tt_inc5 (q := 46) hc dX9_apart_43 rfl (by decide) rfl ?_
            refine tt_goto (t := 27) hc dX9_apart_46 rfl ?_
            refine ih (s + 1) _ (by omega) (hf.tr ((frm.set (i := 28)).mono (by simp))) (fun t ht => ?_)
            rw [mset_eq]
            by_cases e : t = s
            · rw [e, pk_us]
            · rw [pk_un e]
              exact hv t (by omega)
      refine tt_al0 (q := 1) hc dX9_apart_0 rfl ?_
      refine tt_il1 (q := 2) hc dX9_apart_1 rfl ?_
      refine tt_cV1 (q := 5) (d' := 1) (ci := 9) hc (by first | decide | omega) kmX9_bodyAt ml_X9_181 (by first | assumption | exact ⟨by decide, _, rfl⟩) rfl (Nat.le_of_ble_eq_true rfl) dX9_apart_2 rfl ?_
      refine c_X9_bodyAt hM0 ?_
      rw [e1]
      dsimp only [Option.toList, List.nil_append, List.cons_append]
      refine tt_is3 (q := 6) hc dX9_apart_5 rfl (by decide) ?_
      refine tt_al0 (q := 7) hc dX9_apart_6 rfl ?_
      refine tt_il2 (q := 8) hc dX9_apart_7 rfl ?_
      refine tt_cV1 (q := 11) (d' := 1) (ci := 9) hc (by first | decide | omega) kmX9_bodyAt ml_X9_181 (by first | assumption | exact ⟨by decide, _, rfl⟩) rfl (Nat.le_of_ble_eq_true rfl) dX9_apart_8 rfl ?_
      refine c_X9_bodyAt hM0 ?_
      rw [e2]
      dsimp only [Option.toList, List.nil_append, List.cons_append]
      refine tt_is4 (q := 13) hc dX9_apart_11 rfl (by decide) ?_
      refine tt_il3 (q := 14) hc dX9_apart_13 rfl ?_
      refine tt_iflt (t := 22) (q := 17) hc dX9_apart_14 rfl rfl (fun c_14 => ?_) (fun c_14 => ?_)
      · exact absurd c_14 (onI_nneg (by omega))
      · refine tt_il4 (q := 19) hc dX9_apart_17 rfl ?_
        refine tt_ifge (t := 24) (q := 22) hc dX9_apart_19 rfl rfl (fun c_19 => ?_) (fun c_19 => ?_)
        · refine tt_iconst (v := nI 0) (q := 25) hc rfl dX9_apart_24 rfl ?_
          refine tt_is5 (q := 27) hc dX9_apart_25 rfl (by decide) ?_
          exact L1 256 0 μ rfl frm.rf (fun t ht => absurd ht (Nat.not_lt_zero _))
        · exact absurd (Int32.not_lt.mp (onI_nneg (by omega))) c_19
