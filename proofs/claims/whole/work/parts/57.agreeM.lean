/-! THE MODEL: two-sided; heap -/
set_option maxHeartbeats 1000000 in
theorem c_X9_below {l : Launch} {x y : Nat} {μ : Mem} {Q : Option Value → Mem → Prop} (hx : x < 256) (ha : 0 < alo x y) (hQ : Q (some (.int (nI (pop (x &&& (alo x y - 1)))))) μ) : CC l 2 mX9_below [.ref 24, .int (nI x), .int (nI y)] μ Q := by
  refine CC.of (M := mX9_below) (by decide +kernel) rfl (fun v h => by simp at h; rcases h with rfl | rfl | rfl <;> rfl) (Nat.le_of_ble_eq_true rfl) (fun X hX => ?_)
  have hc := hX.cx
  have h1 := and_lt (a := x) (b := alo x y - 1) hx
  refine tt_il1 (q := 1) hc dX9_below_0 rfl ?_
  refine tt_il2 (q := 2) hc dX9_below_1 rfl ?_
  refine tt_iconst (v := -1) (q := 3) hc rfl dX9_below_2 rfl ?_
  first | (with_reducible refine chk2 ?_; refine tt_ixorN (q := 4) hc dX9_below_3 rfl ?_) | refine tt_ixor (q := 4) hc dX9_below_3 rfl ?_
  first | (with_reducible refine chk2 ?_; refine tt_iandN (q := 5) hc dX9_below_4 rfl ?_) | (with_reducible refine chkan ?_; refine tt_iandnN (q := 5) hc dX9_below_4 rfl ?_) | (with_reducible refine chkna ?_; refine tt_inandN (q := 5) hc dX9_below_4 rfl ?_) | refine tt_iand (q := 5) hc dX9_below_4 rfl ?_
  rw [show x ^^^ (x &&& y) = alo x y from rfl]
  refine tt_is3 (q := 6) hc dX9_below_5 rfl (by decide) ?_
  refine tt_il1 (q := 7) hc dX9_below_6 rfl ?_
  refine tt_il3 (q := 8) hc dX9_below_7 rfl ?_
  refine tt_iconst (v := nI 1) (q := 9) hc rfl dX9_below_8 rfl ?_
  first | (with_reducible refine chk2 ?_; refine tt_isubN (q := 10) hc (by omega) dX9_below_9 rfl ?_) | refine tt_isub (q := 10) hc dX9_below_9 rfl ?_
  first | (with_reducible refine chk2 ?_; refine tt_iandN (q := 11) hc dX9_below_10 rfl ?_) | (with_reducible refine chkan ?_; refine tt_iandnN (q := 11) hc dX9_below_10 rfl ?_) | (with_reducible refine chkna ?_; refine tt_inandN (q := 11) hc dX9_below_10 rfl ?_) | refine tt_iand (q := 11) hc dX9_below_10 rfl ?_
  refine tt_cS1 (q := 14) (d' := 1) hc (by first | decide | omega) kmX9_many ml_X9_110 (Nat.le_of_ble_eq_true rfl) dX9_below_11 rfl ?_
  refine c_X9_many ?_
  dsimp only [Option.toList, List.nil_append, List.cons_append]
  refine tt_reti hX rfl dX9_below_14 ?_
  exact hQ
set_option maxHeartbeats 1000000 in
theorem c_X9_areSigned {l : Launch} {x y : Nat} {μ : Mem} {Q : Option Value → Mem → Prop} (hx : x < 256) (hy : y < 256) (ha : 0 < alo x y) (hb : 0 < alo y x) (hQ : Q (some (.int (bI (sam x y)))) μ) : CC l 3 mX9_areSigned [.ref 24, .int (nI x), .int (nI y)] μ Q := by
  refine CC.of (M := mX9_areSigned) (by decide +kernel) rfl (fun v h => by simp at h; rcases h with rfl | rfl | rfl <;> rfl) (Nat.le_of_ble_eq_true rfl) (fun X hX => ?_)
  have hc := hX.cx
  have p1 := pop_le _ (and_lt (a := x) (b := alo x y - 1) hx)
  have p2 := pop_le _ (and_lt (a := y) (b := alo y x - 1) hy)
  refine tt_al0 (q := 1) hc dX9_areSigned_0 rfl ?_
  refine tt_il1 (q := 2) hc dX9_areSigned_1 rfl ?_
  refine tt_il2 (q := 3) hc dX9_areSigned_2 rfl ?_
  refine tt_cV2 (q := 6) (d' := 2) (ci := 9) hc (by first | decide | omega) kmX9_below ml_X9_184 (by first | assumption | exact ⟨by decide, _, rfl⟩) rfl (Nat.le_of_ble_eq_true rfl) dX9_areSigned_3 rfl ?_
  refine c_X9_below hx ha ?_
  dsimp only [Option.toList, List.nil_append, List.cons_append]
  refine tt_al0 (q := 7) hc dX9_areSigned_6 rfl ?_
  refine tt_il2 (q := 8) hc dX9_areSigned_7 rfl ?_
  refine tt_il1 (q := 9) hc dX9_areSigned_8 rfl ?_
  refine tt_cV2 (q := 12) (d' := 2) (ci := 9) hc (by first | decide | omega) kmX9_below ml_X9_184 (by first | assumption | exact ⟨by decide, _, rfl⟩) rfl (Nat.le_of_ble_eq_true rfl) dX9_areSigned_9 rfl ?_
  refine c_X9_below hy hb ?_
  dsimp only [Option.toList, List.nil_append, List.cons_append]
  first | (with_reducible refine chk2 ?_; refine tt_iaddN (q := 13) hc dX9_areSigned_12 rfl ?_) | refine tt_iadd (q := 13) hc dX9_areSigned_12 rfl ?_
  refine tt_iconst (v := nI 2) (q := 14) hc rfl dX9_areSigned_13 rfl ?_
  first | (with_reducible refine chk2 ?_; refine tt_iremN (q := 15) hc (by omega) (by omega) (by omega) dX9_areSigned_14 rfl ?_) | refine tt_irem (q := 15) hc (by decide) dX9_areSigned_14 rfl ?_
  refine tt_iconst (v := nI 1) (q := 16) hc rfl dX9_areSigned_15 rfl ?_
  first | (with_reducible refine chk2 ?_; refine tt_icneN (t := 23) (q := 19) hc (by omega) (by omega) dX9_areSigned_16 rfl rfl (fun c_16 => ?_) (fun c_16 => ?_)) | refine tt_icne (t := 23) (q := 19) hc dX9_areSigned_16 rfl rfl (fun c_16 => ?_) (fun c_16 => ?_)
  · refine tt_iconst (v := nI 0) (q := 24) hc rfl dX9_areSigned_23 rfl ?_
    refine tt_retz hX rfl (by first | decide | exact bI_01 _) dX9_areSigned_24 ?_
    first
    | exact qb1 hQ (decide_eq_true c_16)
    | exact qb0 hQ (decide_eq_false c_16)
  · refine tt_iconst (v := nI 1) (q := 20) hc rfl dX9_areSigned_19 rfl ?_
    refine tt_goto (t := 24) hc dX9_areSigned_20 rfl ?_
    refine tt_retz hX rfl (by first | decide | exact bI_01 _) dX9_areSigned_24 ?_
    first
    | exact qb1 hQ (decide_eq_true c_16)
    | exact qb0 hQ (decide_eq_false c_16)
theorem sgn_eq {b : Bool} {a g : Nat} (ha : a ≤ 1) (hg : g ≤ 1) : (g = if b = true then a else 1 - a) ↔ (b == decide (a = g)) = true := by
  cases b <;> simp <;> omega
theorem prOK_of {K : Nat} {V : Vis} {s t : Nat} {x y : Nat × Nat} (hs : V s = some x) (ht : V t = some y) (hx : x.2 ≤ 1) (hy : y.2 ≤ 1) : prOK K V s t = true ↔ (bsd K s t = true → y.2 = if sam s t = true then x.2 else 1 - x.2) := by
  have e1 : sgv V s = x.2 := by simp [sgv, hs]
  have e2 : sgv V t = y.2 := by simp [sgv, ht]
  rw [prOK, e1, e2, Bool.or_eq_true, ← sgn_eq hx hy]
  cases bsd K s t <;> simp
theorem scan_pre {K cur dc sc : Nat} : ∀ (r : List Nat) (st : List Nat × Vis), ∃ e, (scan K cur dc sc r st).1 = st.1 ++ e
  | [], st => ⟨[], by rw [scan, List.append_nil]⟩
  | s :: r, st => by
    rw [scan]
    split
    · obtain ⟨e, h⟩ := scan_pre (K := K) (cur := cur) (dc := dc) (sc := sc) r (st.1 ++ [s], vset st.2 s (dc + 1, if sam cur s = true then sc else 1 - sc))
      exact ⟨s :: e, by rw [h]; simp⟩
    · exact scan_pre r st
theorem scan_new {K cur dc sc : Nat} : ∀ (r : List Nat) (st : List Nat × Vis) (c : Nat) (x : Nat × Nat), (scan K cur dc sc r st).2 c = some x → st.2 c = some x ∨ c ∈ (scan K cur dc sc r st).1
  | [], st, c, x, h => Or.inl h
  | s :: r, st, c, x, h => by
    rw [scan] at h ⊢
    split at h
    · rename_i q
      rw [if_pos q]
      rcases scan_new r _ c x h with z | z
      · by_cases e : c = s
        · right
          obtain ⟨e2, h2⟩ := scan_pre (K := K) (cur := cur) (dc := dc) (sc := sc) r (st.1 ++ [s], vset st.2 s (dc + 1, if sam cur s = true then sc else 1 - sc))
          rw [h2, e]
          simp
        · left
          have z : vset st.2 s _ c = some x := z
          rw [vset_ne e] at z
          exact z
      · exact Or.inr z
    · rename_i q
      rw [if_neg q]
      exact scan_new r st c x h
theorem bfs_pre {K : Nat} {bs : List Nat} : ∀ (f k : Nat) (st : List Nat × Vis), ∃ e, (bfs K bs f k st).1 = st.1 ++ e
  | 0, _, st => ⟨[], by rw [bfs, List.append_nil]⟩
  | f + 1, k, st => by
    rw [bfs]
    cases e1 : st.1[k]? with
    | none => exact ⟨[], by rw [List.append_nil]⟩
    | some cur =>
      cases e2 : st.2 cur with
      | none =>
        simp only [e2]
        exact ⟨[], by rw [List.append_nil]⟩
      | some x =>
        obtain ⟨dc, sc⟩ := x
        simp only [e2]
        obtain ⟨e1, h1⟩ := bfs_pre (K := K) (bs := bs) f (k + 1) (scan K cur dc sc bs st)
        obtain ⟨e2, h2⟩ := scan_pre (K := K) (cur := cur) (dc := dc) (sc := sc) bs st
        exact ⟨e2 ++ e1, by rw [h1, h2, List.append_assoc]⟩
theorem bfs_new {K : Nat} {bs : List Nat} : ∀ (f k : Nat) (st : List Nat × Vis) (c : Nat) (x : Nat × Nat), (bfs K bs f k st).2 c = some x → st.2 c = some x ∨ c ∈ (bfs K bs f k st).1
  | 0, _, st, c, x, h => Or.inl h
  | f + 1, k, st, c, x, h => by
    rw [bfs] at h ⊢
    cases e1 : st.1[k]? with
    | none =>
      rw [e1] at h
      exact Or.inl h
    | some cur =>
      rw [e1] at h
      cases e2 : st.2 cur with
      | none =>
        simp only [e2] at h
        exact Or.inl h
      | some y =>
        obtain ⟨dc, sc⟩ := y
        simp only [e2] at h ⊢
        rcases bfs_new f (k + 1) _ c x h with z | z
        · rcases scan_new bs st c x z with y | y
          · exact Or.inl y
          · obtain ⟨e3, h3⟩ := bfs_pre (K := K) (bs := bs) f (k + 1) (scan K cur dc sc bs st)
            right
            rw [h3]
            exact List.mem_append_left _ y
        · exact Or.inr z
set_option maxHeartbeats 4000000 in
theorem a_inner {l : Launch} {K : Nat} {B : HP} {V : Vis} {Q : Option Value → Mem → Prop} {X : XT} (hX : Cm X l 4 mX9_areAgreed Q) (hB : HOK K B) (hV : sg01 V) {from_ k cur dc sc : Nat} (hBc : B cur = true) (hsc : sc ≤ 1) :
    ∀ (m s v0 : Nat) (st : List Nat × Vis) (ν : Mem) (w5 : Value), s + m = 256 → 0 < s → PI B st v0 → sg01 st.2 → FQ Prod.snd ν st.2 → PL ν st.1 → st.1[k]? = some cur → st.2 cur = some (dc, sc) → BA ν 77 B → ν 24 0 = nI K →
      (∀ t x, (scan K cur dc sc (blF B m s) st).2 t = some x → V t = some x) →
      (∀ (ν' : Mem) (w4 w5 : Value), frm [28, 29] ν ν' → (∀ t ∈ blF B m s, prOK K V cur t = true) → PI B (scan K cur dc sc (blF B m s) st) v0 → sg01 (scan K cur dc sc (blF B m s) st).2 → FQ Prod.snd ν' (scan K cur dc sc (blF B m s) st).2 → PL ν' (scan K cur dc sc (blF B m s) st).1 → TT X 169 [.ref 24, .int (nI from_), .int (nI (scan K cur dc sc (blF B m s) st).1.length), .int (nI k), w4, w5] [] ν') →
      (∀ (ν' : Mem), frm [28, 29] ν ν' → (∃ t, B t = true ∧ prOK K V cur t = false) → Q (some (.int (nI 0))) ν') →
      TT X 26 [.ref 24, .int (nI from_), .int (nI st.1.length), .int (nI k), .int (nI s), w5] [] ν := by
  have hc := hX.cx
  have htot := tot_le hB
  have a28 := HA28
  have a29 := HA29
  have a77 := HA77
  have hK := hB.1
  obtain ⟨hcl, hcp⟩ := hB.2 cur hBc
  intro m
  induction m with
  | zero =>
    intro s v0 st ν w5 hs h0 hPI hsg hFQ hPL hk hv hBA hz hext hT hF
    refine tt_il4 (q := 28) hc dX9_areAgreed_26 rfl ?_
    refine tt_sipush (v := nI 256) (q := 31) hc (by decide) dX9_areAgreed_28 rfl ?_
    first | (with_reducible refine chk2 ?_; refine tt_icgeN (t := 169) (q := 34) hc (by omega) (by omega) dX9_areAgreed_31 rfl rfl (fun c_31 => ?_) (fun c_31 => ?_)) | refine tt_icge (t := 169) (q := 34) hc dX9_areAgreed_31 rfl rfl (fun c_31 => ?_) (fun c_31 => ?_)
    · exact hT ν _ _ frm.rf (fun t ht => by cases ht) hPI hsg hFQ hPL
    · omega
  | succ m ih =>
    intro s v0 st ν w5 hs h0 hPI hsg hFQ hPL hk hv hBA hz hext hT hF
    have hkl := (List.getElem?_eq_some_iff.mp hk).1
    have hpl : st.1.length ≤ tot B := by have := hPI.1; have := cV_le (B := B) (v := st.2); omega
    rw [blF] at hext hT
    cases hbs : B s with
    | false =>
      rw [hbs, if_neg Bool.false_ne_true] at hext hT
      refine tt_il4 (q := 28) hc dX9_areAgreed_26 rfl ?_
      refine tt_sipush (v := nI 256) (q := 31) hc (by decide) dX9_areAgreed_28 rfl ?_
      first | (with_reducible refine chk2 ?_; refine tt_icgeN (t := 169) (q := 34) hc (by omega) (by omega) dX9_areAgreed_31 rfl rfl (fun c_31 => ?_) (fun c_31 => ?_)) | refine tt_icge (t := 169) (q := 34) hc dX9_areAgreed_31 rfl rfl (fun c_31 => ?_) (fun c_31 => ?_)
      · omega
      · refine tt_al0 (q := 35) hc dX9_areAgreed_34 rfl ?_
        refine tt_getR (q := 38) hc fl_X9_15 (by first | assumption | exact ⟨by decide, _, rfl, rfl⟩) dX9_areAgreed_35 rfl ?_
        refine tt_il4 (q := 40) hc dX9_areAgreed_38 rfl ?_
        refine tt_zald (q := 41) hc (by first | assumption | exact ⟨by decide, rfl, by decide⟩) (by omega) dX9_areAgreed_40 rfl ?_
        rw [hBA s (by omega), hbs]
        first | (with_reducible refine chkb ?_; refine tt_ifeqB (t := 163) (q := 44) hc dX9_areAgreed_41 rfl rfl (fun c_41 => ?_) (fun c_41 => ?_)) | (with_reducible refine chk1 ?_; refine tt_ifeqN (t := 163) (q := 44) hc (by omega) dX9_areAgreed_41 rfl rfl (fun c_41 => ?_) (fun c_41 => ?_)) | refine tt_ifeq (t := 163) (q := 44) hc dX9_areAgreed_41 rfl rfl (fun c_41 => ?_) (fun c_41 => ?_)
        · first | refine tt_inc4 (q := 166) hc dX9_areAgreed_163 rfl (by decide) (incN _) ?_ | refine tt_inc4 (q := 166) hc dX9_areAgreed_163 rfl (by decide) rfl ?_
          refine tt_goto (t := 26) hc dX9_areAgreed_166 rfl ?_
          exact ih (s + 1) v0 st ν _ (by omega) (by omega) hPI hsg hFQ hPL hk hv hBA hz hext hT hF
        · cases c_41
    | true =>
      obtain ⟨hsl, hsp⟩ := hB.2 s hbs
      rw [hbs, if_pos rfl, scan] at hext hT
      have hVc : V cur = some (dc, sc) := by
        refine hext cur (dc, sc) ?_
        split
        · rename_i q
          refine scan_vis _ _ _ _ ?_
          show vset st.2 s _ cur = _
          rw [vset_ne (fun e : cur = s => by rw [← e, hv] at q; cases q.1)]
          exact hv
        · exact scan_vis _ _ _ _ hv
      cases hbd : bsd K cur s with
      | false =>
        have hno : ¬ (st.2 s = none ∧ bsd K cur s = true) := fun z => by rw [hbd] at z; cases z.2
        rw [if_neg hno] at hext hT
        have hp : prOK K V cur s = true := by rw [prOK, hbd]; rfl
        refine tt_il4 (q := 28) hc dX9_areAgreed_26 rfl ?_
        refine tt_sipush (v := nI 256) (q := 31) hc (by decide) dX9_areAgreed_28 rfl ?_
        first | (with_reducible refine chk2 ?_; refine tt_icgeN (t := 169) (q := 34) hc (by omega) (by omega) dX9_areAgreed_31 rfl rfl (fun c_31 => ?_) (fun c_31 => ?_)) | refine tt_icge (t := 169) (q := 34) hc dX9_areAgreed_31 rfl rfl (fun c_31 => ?_) (fun c_31 => ?_)
        · omega
        · refine tt_al0 (q := 35) hc dX9_areAgreed_34 rfl ?_
          refine tt_getR (q := 38) hc fl_X9_15 (by first | assumption | exact ⟨by decide, _, rfl, rfl⟩) dX9_areAgreed_35 rfl ?_
          refine tt_il4 (q := 40) hc dX9_areAgreed_38 rfl ?_
          refine tt_zald (q := 41) hc (by first | assumption | exact ⟨by decide, rfl, by decide⟩) (by omega) dX9_areAgreed_40 rfl ?_
          rw [hBA s (by omega), hbs]
          first | (with_reducible refine chkb ?_; refine tt_ifeqB (t := 163) (q := 44) hc dX9_areAgreed_41 rfl rfl (fun c_41 => ?_) (fun c_41 => ?_)) | (with_reducible refine chk1 ?_; refine tt_ifeqN (t := 163) (q := 44) hc (by omega) dX9_areAgreed_41 rfl rfl (fun c_41 => ?_) (fun c_41 => ?_)) | refine tt_ifeq (t := 163) (q := 44) hc dX9_areAgreed_41 rfl rfl (fun c_41 => ?_) (fun c_41 => ?_)
          · cases c_41
          · refine tt_al0 (q := 45) hc dX9_areAgreed_44 rfl ?_
            refine tt_al0 (q := 46) hc dX9_areAgreed_45 rfl ?_
            refine tt_getR (q := 49) hc fl_X9_34 (by first | assumption | exact ⟨by decide, _, rfl, rfl⟩) dX9_areAgreed_46 rfl ?_
            refine tt_il3 (q := 50) hc dX9_areAgreed_49 rfl ?_
            refine tt_iald (q := 51) hc (by first | assumption | exact ⟨by decide, rfl, by decide⟩) (by omega) dX9_areAgreed_50 rfl ?_
            rw [hPL k cur hk]
            refine tt_il4 (q := 53) hc dX9_areAgreed_51 rfl ?_
            refine tt_cV2 (q := 56) (d' := 2) (ci := 9) hc (by first | decide | omega) kmX9_areBeside ml_X9_171 (by first | assumption | exact ⟨by decide, _, rfl⟩) rfl (Nat.le_of_ble_eq_true rfl) dX9_areAgreed_53 rfl ?_
            refine c_X9_areBeside hK hz hcl ?_
            rw [show decide (pop (cur &&& s) = K - 1) = false from hbd]
            dsimp only [Option.toList, List.nil_append, List.cons_append]
            first | (with_reducible refine chkb ?_; refine tt_ifneB (t := 62) (q := 59) hc dX9_areAgreed_56 rfl rfl (fun c_56 => ?_) (fun c_56 => ?_)) | (with_reducible refine chk1 ?_; refine tt_ifneN (t := 62) (q := 59) hc (by omega) dX9_areAgreed_56 rfl rfl (fun c_56 => ?_) (fun c_56 => ?_)) | refine tt_ifne (t := 62) (q := 59) hc dX9_areAgreed_56 rfl rfl (fun c_56 => ?_) (fun c_56 => ?_)
            · cases c_56
            · refine tt_goto (t := 163) hc dX9_areAgreed_59 rfl ?_
              first | refine tt_inc4 (q := 166) hc dX9_areAgreed_163 rfl (by decide) (incN _) ?_ | refine tt_inc4 (q := 166) hc dX9_areAgreed_163 rfl (by decide) rfl ?_
              refine tt_goto (t := 26) hc dX9_areAgreed_166 rfl ?_
              exact ih (s + 1) v0 st ν _ (by omega) (by omega) hPI hsg hFQ hPL hk hv hBA hz hext (fun ν' w4 w5 hf hp' => hT ν' w4 w5 hf (fun t ht => (List.mem_cons.mp ht).elim (fun e => by rw [e]; exact hp) (hp' t))) hF
      | true =>
        have hne : 0 < alo cur s ∧ 0 < alo s cur := by
          have z := hbd
          simp only [bsd, decide_eq_true_eq] at z
          exact ⟨alo_pos (by omega), alo_pos (by rw [Nat.and_comm]; omega)⟩
        have E : ∀ (g : Nat), g = (if sam cur s = true then sc else 1 - sc) → TT X 106 [.ref 24, .int (nI from_), .int (nI st.1.length), .int (nI k), .int (nI s), .int (nI g)] [] ν := by
          intro g hg
          have hg1 : g ≤ 1 := by
            rw [hg]
            split <;> omega
          cases hvs : st.2 s with
          | some x =>
            have hno : ¬ (st.2 s = none ∧ bsd K cur s = true) := fun z => by rw [hvs] at z; cases z.1
            rw [if_neg hno] at hext hT
            have hVs : V s = some x := hext s x (scan_vis _ _ _ _ hvs)
            have hx1 : x.2 ≤ 1 := hsg s x.1 x.2 hvs
            have hpo := prOK_of (K := K) hVc hVs hsc hx1
            refine tt_al0 (q := 107) hc dX9_areAgreed_106 rfl ?_
            refine tt_getR (q := 110) hc fl_X9_31 (by first | assumption | exact ⟨by decide, _, rfl, rfl⟩) dX9_areAgreed_107 rfl ?_
            refine tt_il4 (q := 112) hc dX9_areAgreed_110 rfl ?_
            refine tt_iald (q := 113) hc (by first | assumption | exact ⟨by decide, rfl, by decide⟩) (by omega) dX9_areAgreed_112 rfl ?_
            rw [hFQ s hsl, hvs, show vI Prod.snd (some x) = nI x.2 from rfl]
            refine tt_ifltN (t := 130) (q := 116) hc (by omega) dX9_areAgreed_113 rfl rfl ?_
            refine tt_al0 (q := 117) hc dX9_areAgreed_116 rfl ?_
            refine tt_getR (q := 120) hc fl_X9_31 (by first | assumption | exact ⟨by decide, _, rfl, rfl⟩) dX9_areAgreed_117 rfl ?_
            refine tt_il4 (q := 122) hc dX9_areAgreed_120 rfl ?_
            refine tt_iald (q := 123) hc (by first | assumption | exact ⟨by decide, rfl, by decide⟩) (by omega) dX9_areAgreed_122 rfl ?_
            rw [hFQ s hsl, hvs, show vI Prod.snd (some x) = nI x.2 from rfl]
            refine tt_il5 (q := 125) hc dX9_areAgreed_123 rfl ?_
            first | (with_reducible refine chk2 ?_; refine tt_iceqN (t := 130) (q := 128) hc (by omega) (by omega) dX9_areAgreed_125 rfl rfl (fun c_125 => ?_) (fun c_125 => ?_)) | refine tt_iceq (t := 130) (q := 128) hc dX9_areAgreed_125 rfl rfl (fun c_125 => ?_) (fun c_125 => ?_)
            · refine tt_al0 (q := 131) hc dX9_areAgreed_130 rfl ?_
              refine tt_getR (q := 134) hc fl_X9_31 (by first | assumption | exact ⟨by decide, _, rfl, rfl⟩) dX9_areAgreed_131 rfl ?_
              refine tt_il4 (q := 136) hc dX9_areAgreed_134 rfl ?_
              refine tt_iald (q := 137) hc (by first | assumption | exact ⟨by decide, rfl, by decide⟩) (by omega) dX9_areAgreed_136 rfl ?_
              rw [hFQ s hsl, hvs, show vI Prod.snd (some x) = nI x.2 from rfl]
              refine tt_ifltN (t := 143) (q := 140) hc (by omega) dX9_areAgreed_137 rfl rfl ?_
              refine tt_goto (t := 163) hc dX9_areAgreed_140 rfl ?_
              first | refine tt_inc4 (q := 166) hc dX9_areAgreed_163 rfl (by decide) (incN _) ?_ | refine tt_inc4 (q := 166) hc dX9_areAgreed_163 rfl (by decide) rfl ?_
              refine tt_goto (t := 26) hc dX9_areAgreed_166 rfl ?_
              exact ih (s + 1) v0 st ν _ (by omega) (by omega) hPI hsg hFQ hPL hk hv hBA hz hext (fun ν' w4 w5 hf hp' => hT ν' w4 w5 hf (fun t ht => (List.mem_cons.mp ht).elim (fun e => by rw [e]; exact hpo.mpr (fun _ => c_125.trans hg)) (hp' t))) hF
            · refine tt_iconst (v := nI 0) (q := 129) hc rfl dX9_areAgreed_128 rfl ?_
              refine tt_retz hX rfl (by first | decide | exact bI_01 _) dX9_areAgreed_129 ?_
              refine hF ν frm.rf ⟨s, hbs, ?_⟩
              cases e : prOK K V cur s
              · rfl
              · exact absurd ((hpo.mp e hbd).trans hg.symm) c_125
          | none =>
            have hlt : st.1.length < 70 := by have := hPI.1; have := cV_lt hsl hbs hvs; omega
            have hcs : cur ≠ s := fun e => by rw [e, hvs] at hv; cases hv
            rw [if_pos ⟨hvs, hbd⟩, ← hg] at hext hT
            have hVs : V s = some (dc + 1, g) := hext s _ (scan_vis _ _ _ _ vset_eq)
            have hpo := prOK_of (K := K) hVc hVs hsc hg1
            refine tt_al0 (q := 107) hc dX9_areAgreed_106 rfl ?_
            refine tt_getR (q := 110) hc fl_X9_31 (by first | assumption | exact ⟨by decide, _, rfl, rfl⟩) dX9_areAgreed_107 rfl ?_
            refine tt_il4 (q := 112) hc dX9_areAgreed_110 rfl ?_
            refine tt_iald (q := 113) hc (by first | assumption | exact ⟨by decide, rfl, by decide⟩) (by omega) dX9_areAgreed_112 rfl ?_
            rw [hFQ s hsl, hvs]
            refine tt_iflt (t := 130) (q := 116) hc dX9_areAgreed_113 rfl rfl (fun c_113 => ?_) (fun c_113 => ?_)
            · refine tt_al0 (q := 131) hc dX9_areAgreed_130 rfl ?_
              refine tt_getR (q := 134) hc fl_X9_31 (by first | assumption | exact ⟨by decide, _, rfl, rfl⟩) dX9_areAgreed_131 rfl ?_
              refine tt_il4 (q := 136) hc dX9_areAgreed_134 rfl ?_
              refine tt_iald (q := 137) hc (by first | assumption | exact ⟨by decide, rfl, by decide⟩) (by omega) dX9_areAgreed_136 rfl ?_
              rw [hFQ s hsl, hvs]
              refine tt_iflt (t := 143) (q := 140) hc dX9_areAgreed_137 rfl rfl (fun c_137 => ?_) (fun c_137 => ?_)
              · refine tt_al0 (q := 144) hc dX9_areAgreed_143 rfl ?_
                refine tt_getR (q := 147) hc fl_X9_31 (by first | assumption | exact ⟨by decide, _, rfl, rfl⟩) dX9_areAgreed_144 rfl ?_
                refine tt_il4 (q := 149) hc dX9_areAgreed_147 rfl ?_
                refine tt_il5 (q := 151) hc dX9_areAgreed_149 rfl ?_
                refine tt_iast (q := 152) hc (by first | assumption | exact ⟨by decide, rfl, by decide⟩) (by omega) dX9_areAgreed_151 rfl ?_
                refine tt_al0 (q := 153) hc dX9_areAgreed_152 rfl ?_
                refine tt_getR (q := 156) hc fl_X9_34 (by first | assumption | exact ⟨by decide, _, rfl, rfl⟩) dX9_areAgreed_153 rfl ?_
                refine tt_il2 (q := 157) hc dX9_areAgreed_156 rfl ?_
                refine tt_il4 (q := 159) hc dX9_areAgreed_157 rfl ?_
                refine tt_iast (q := 160) hc (by first | assumption | exact ⟨by decide, rfl, by decide⟩) (by omega) dX9_areAgreed_159 rfl ?_
                first | refine tt_inc2 (q := 163) hc dX9_areAgreed_160 rfl (by decide) (incN _) ?_ | refine tt_inc2 (q := 163) hc dX9_areAgreed_160 rfl (by decide) rfl ?_
                first | refine tt_inc4 (q := 166) hc dX9_areAgreed_163 rfl (by decide) (incN _) ?_ | refine tt_inc4 (q := 166) hc dX9_areAgreed_163 rfl (by decide) rfl ?_
                refine tt_goto (t := 26) hc dX9_areAgreed_166 rfl ?_
                rw [← snoc_len st.1 s]
                have hfa : frm [28, 29] ν (mset (mset ν 28 (upd (ν 28) s (nI g))) 29 (upd (mset ν 28 (upd (ν 28) s (nI g)) 29) st.1.length (nI s))) := ((frm.set (i := 28)).mono (by simp)).tr ((frm.set (i := 29)).mono (by simp))
                exact ih (s + 1) v0 (st.1 ++ [s], vset st.2 s (dc + 1, g)) _ _ (by omega) (by omega) (hPI.push hB hbs hvs) (sg01_set hsg hg1) (hFQ.set (by rw [mset_ne (by decide), mset_eq])) (hPL.push (by rw [mset_eq, mset_ne (by decide)])) (at_push hk) (by show vset st.2 s _ cur = _; rw [vset_ne hcs]; exact hv) (hBA.fr hfa (by decide)) (by rw [hfa 24 (by decide)]; exact hz) hext (fun ν' w4 w5 hf hp' => hT ν' w4 w5 (hfa.tr hf) (fun t ht => (List.mem_cons.mp ht).elim (fun e => by rw [e]; exact hpo.mpr (fun _ => hg)) (hp' t))) (fun ν' hf => hF ν' (hfa.tr hf))
              · exact absurd (by decide) c_137
            · exact absurd (by decide) c_113
        refine tt_il4 (q := 28) hc dX9_areAgreed_26 rfl ?_
        refine tt_sipush (v := nI 256) (q := 31) hc (by decide) dX9_areAgreed_28 rfl ?_
        first | (with_reducible refine chk2 ?_; refine tt_icgeN (t := 169) (q := 34) hc (by omega) (by omega) dX9_areAgreed_31 rfl rfl (fun c_31 => ?_) (fun c_31 => ?_)) | refine tt_icge (t := 169) (q := 34) hc dX9_areAgreed_31 rfl rfl (fun c_31 => ?_) (fun c_31 => ?_)
        · omega
        · refine tt_al0 (q := 35) hc dX9_areAgreed_34 rfl ?_
          refine tt_getR (q := 38) hc fl_X9_15 (by first | assumption | exact ⟨by decide, _, rfl, rfl⟩) dX9_areAgreed_35 rfl ?_
          refine tt_il4 (q := 40) hc dX9_areAgreed_38 rfl ?_
          refine tt_zald (q := 41) hc (by first | assumption | exact ⟨by decide, rfl, by decide⟩) (by omega) dX9_areAgreed_40 rfl ?_
          rw [hBA s (by omega), hbs]
          first | (with_reducible refine chkb ?_; refine tt_ifeqB (t := 163) (q := 44) hc dX9_areAgreed_41 rfl rfl (fun c_41 => ?_) (fun c_41 => ?_)) | (with_reducible refine chk1 ?_; refine tt_ifeqN (t := 163) (q := 44) hc (by omega) dX9_areAgreed_41 rfl rfl (fun c_41 => ?_) (fun c_41 => ?_)) | refine tt_ifeq (t := 163) (q := 44) hc dX9_areAgreed_41 rfl rfl (fun c_41 => ?_) (fun c_41 => ?_)
          · cases c_41
          · refine tt_al0 (q := 45) hc dX9_areAgreed_44 rfl ?_
            refine tt_al0 (q := 46) hc dX9_areAgreed_45 rfl ?_
            refine tt_getR (q := 49) hc fl_X9_34 (by first | assumption | exact ⟨by decide, _, rfl, rfl⟩) dX9_areAgreed_46 rfl ?_
            refine tt_il3 (q := 50) hc dX9_areAgreed_49 rfl ?_
            refine tt_iald (q := 51) hc (by first | assumption | exact ⟨by decide, rfl, by decide⟩) (by omega) dX9_areAgreed_50 rfl ?_
            rw [hPL k cur hk]
            refine tt_il4 (q := 53) hc dX9_areAgreed_51 rfl ?_
            refine tt_cV2 (q := 56) (d' := 2) (ci := 9) hc (by first | decide | omega) kmX9_areBeside ml_X9_171 (by first | assumption | exact ⟨by decide, _, rfl⟩) rfl (Nat.le_of_ble_eq_true rfl) dX9_areAgreed_53 rfl ?_
            refine c_X9_areBeside hK hz hcl ?_
            rw [show decide (pop (cur &&& s) = K - 1) = true from hbd]
            dsimp only [Option.toList, List.nil_append, List.cons_append]
            first | (with_reducible refine chkb ?_; refine tt_ifneB (t := 62) (q := 59) hc dX9_areAgreed_56 rfl rfl (fun c_56 => ?_) (fun c_56 => ?_)) | (with_reducible refine chk1 ?_; refine tt_ifneN (t := 62) (q := 59) hc (by omega) dX9_areAgreed_56 rfl rfl (fun c_56 => ?_) (fun c_56 => ?_)) | refine tt_ifne (t := 62) (q := 59) hc dX9_areAgreed_56 rfl rfl (fun c_56 => ?_) (fun c_56 => ?_)
            · refine tt_al0 (q := 63) hc dX9_areAgreed_62 rfl ?_
              refine tt_al0 (q := 64) hc dX9_areAgreed_63 rfl ?_
              refine tt_getR (q := 67) hc fl_X9_34 (by first | assumption | exact ⟨by decide, _, rfl, rfl⟩) dX9_areAgreed_64 rfl ?_
              refine tt_il3 (q := 68) hc dX9_areAgreed_67 rfl ?_
              refine tt_iald (q := 69) hc (by first | assumption | exact ⟨by decide, rfl, by decide⟩) (by omega) dX9_areAgreed_68 rfl ?_
              rw [hPL k cur hk]
              refine tt_il4 (q := 71) hc dX9_areAgreed_69 rfl ?_
              refine tt_cV2 (q := 74) (d' := 3) (ci := 9) hc (by first | decide | omega) kmX9_areSigned ml_X9_191 (by first | assumption | exact ⟨by decide, _, rfl⟩) rfl (Nat.le_of_ble_eq_true rfl) dX9_areAgreed_71 rfl ?_
              refine c_X9_areSigned hcl hsl hne.1 hne.2 ?_
              dsimp only [Option.toList, List.nil_append, List.cons_append]
              first | (with_reducible refine chkb ?_; refine tt_ifeqB (t := 91) (q := 77) hc dX9_areAgreed_74 rfl rfl (fun c_74 => ?_) (fun c_74 => ?_)) | (with_reducible refine chk1 ?_; refine tt_ifeqN (t := 91) (q := 77) hc (by omega) dX9_areAgreed_74 rfl rfl (fun c_74 => ?_) (fun c_74 => ?_)) | refine tt_ifeq (t := 91) (q := 77) hc dX9_areAgreed_74 rfl rfl (fun c_74 => ?_) (fun c_74 => ?_)
              · refine tt_iconst (v := nI 1) (q := 92) hc rfl dX9_areAgreed_91 rfl ?_
                refine tt_al0 (q := 93) hc dX9_areAgreed_92 rfl ?_
                refine tt_getR (q := 96) hc fl_X9_31 (by first | assumption | exact ⟨by decide, _, rfl, rfl⟩) dX9_areAgreed_93 rfl ?_
                refine tt_al0 (q := 97) hc dX9_areAgreed_96 rfl ?_
                refine tt_getR (q := 100) hc fl_X9_34 (by first | assumption | exact ⟨by decide, _, rfl, rfl⟩) dX9_areAgreed_97 rfl ?_
                refine tt_il3 (q := 101) hc dX9_areAgreed_100 rfl ?_
                refine tt_iald (q := 102) hc (by first | assumption | exact ⟨by decide, rfl, by decide⟩) (by omega) dX9_areAgreed_101 rfl ?_
                rw [hPL k cur hk]
                refine tt_iald (q := 103) hc (by first | assumption | exact ⟨by decide, rfl, by decide⟩) (by omega) dX9_areAgreed_102 rfl ?_
                rw [hFQ cur hcl, hv, show vI Prod.snd (some (dc, sc)) = nI sc from rfl]
                first | (with_reducible refine chk2 ?_; refine tt_isubN (q := 104) hc (by omega) dX9_areAgreed_103 rfl ?_) | refine tt_isub (q := 104) hc dX9_areAgreed_103 rfl ?_
                refine tt_is5 (q := 106) hc dX9_areAgreed_104 rfl (by decide) ?_
                first
                | (have z : sam cur s = true := c_74
                   exact E _ (by rw [if_pos z]))
                | (have z : sam cur s = false := c_74
                   exact E _ (by rw [z, if_neg Bool.false_ne_true]))
              · refine tt_al0 (q := 78) hc dX9_areAgreed_77 rfl ?_
                refine tt_getR (q := 81) hc fl_X9_31 (by first | assumption | exact ⟨by decide, _, rfl, rfl⟩) dX9_areAgreed_78 rfl ?_
                refine tt_al0 (q := 82) hc dX9_areAgreed_81 rfl ?_
                refine tt_getR (q := 85) hc fl_X9_34 (by first | assumption | exact ⟨by decide, _, rfl, rfl⟩) dX9_areAgreed_82 rfl ?_
                refine tt_il3 (q := 86) hc dX9_areAgreed_85 rfl ?_
                refine tt_iald (q := 87) hc (by first | assumption | exact ⟨by decide, rfl, by decide⟩) (by omega) dX9_areAgreed_86 rfl ?_
                rw [hPL k cur hk]
                refine tt_iald (q := 88) hc (by first | assumption | exact ⟨by decide, rfl, by decide⟩) (by omega) dX9_areAgreed_87 rfl ?_
                rw [hFQ cur hcl, hv, show vI Prod.snd (some (dc, sc)) = nI sc from rfl]
                refine tt_goto (t := 104) hc dX9_areAgreed_88 rfl ?_
                refine tt_is5 (q := 106) hc dX9_areAgreed_104 rfl (by decide) ?_
                first
                | (have z : sam cur s = true := c_74
                   exact E _ (by rw [if_pos z]))
                | (have z : sam cur s = false := c_74
                   exact E _ (by rw [z, if_neg Bool.false_ne_true]))
            · cases c_56
set_option maxHeartbeats 2000000 in
theorem a_outer {l : Launch} {K : Nat} {B : HP} {V : Vis} {Q : Option Value → Mem → Prop} {X : XT} (hX : Cm X l 4 mX9_areAgreed Q) (hB : HOK K B) (hV : sg01 V) {from_ : Nat} :
    ∀ (f k v0 : Nat) (st : List Nat × Vis) (ν : Mem) (w4 w5 : Value), k + f = 256 → PI B st v0 → sg01 st.2 → FQ Prod.snd ν st.2 → PL ν st.1 → BA ν 77 B → ν 24 0 = nI K → (∀ t x, (bfs K (bl B) f k st).2 t = some x → V t = some x) → (∀ j c, j < k → st.1[j]? = some c → ∀ t ∈ bl B, prOK K V c t = true) →
      (∀ (ν' : Mem), frm [28, 29] ν ν' → sg01 (bfs K (bl B) f k st).2 → FQ Prod.snd ν' (bfs K (bl B) f k st).2 → (∀ c ∈ (bfs K (bl B) f k st).1, ∀ t ∈ bl B, prOK K V c t = true) → Q (some (.int (nI 1))) ν') →
      (∀ (ν' : Mem), frm [28, 29] ν ν' → (∃ c t, B c = true ∧ B t = true ∧ prOK K V c t = false) → Q (some (.int (nI 0))) ν') →
      TT X 18 [.ref 24, .int (nI from_), .int (nI st.1.length), .int (nI k), w4, w5] [] ν := by
  have hc := hX.cx
  have htot := tot_le hB
  intro f
  induction f with
  | zero =>
    intro k v0 st ν w4 w5 hk hPI hsg hFQ hPL hBA hz hext hdone hT hF
    have hpl : st.1.length ≤ tot B := by have := hPI.1; have := cV_le (B := B) (v := st.2); omega
    refine tt_il3 (q := 19) hc dX9_areAgreed_18 rfl ?_
    refine tt_il2 (q := 20) hc dX9_areAgreed_19 rfl ?_
    first | (with_reducible refine chk2 ?_; refine tt_icgeN (t := 175) (q := 23) hc (by omega) (by omega) dX9_areAgreed_20 rfl rfl (fun c_20 => ?_) (fun c_20 => ?_)) | refine tt_icge (t := 175) (q := 23) hc dX9_areAgreed_20 rfl rfl (fun c_20 => ?_) (fun c_20 => ?_)
    · refine tt_iconst (v := nI 1) (q := 176) hc rfl dX9_areAgreed_175 rfl ?_
      refine tt_retz hX rfl (by first | decide | exact bI_01 _) dX9_areAgreed_176 ?_
      refine hT ν frm.rf hsg hFQ (fun c hcm t ht => ?_)
      obtain ⟨j, hj⟩ := List.getElem?_of_mem hcm
      have hl := (List.getElem?_eq_some_iff.mp hj).1
      rw [bfs] at hj hl
      exact hdone j c (by omega) hj t ht
    · omega
  | succ f ih =>
    intro k v0 st ν w4 w5 hk hPI hsg hFQ hPL hBA hz hext hdone hT hF
    have hpl : st.1.length ≤ tot B := by have := hPI.1; have := cV_le (B := B) (v := st.2); omega
    rw [bfs] at hext hT
    by_cases hkl : k < st.1.length
    · have e1 : st.1[k]? = some st.1[k] := List.getElem?_eq_getElem hkl
      obtain ⟨Bc, ⟨dc, sc⟩, hv⟩ := hPI.2 _ (List.mem_of_getElem? e1)
      simp only [e1, hv] at hext hT
      generalize st.1[k] = cur at *
      refine tt_il3 (q := 19) hc dX9_areAgreed_18 rfl ?_
      refine tt_il2 (q := 20) hc dX9_areAgreed_19 rfl ?_
      first | (with_reducible refine chk2 ?_; refine tt_icgeN (t := 175) (q := 23) hc (by omega) (by omega) dX9_areAgreed_20 rfl rfl (fun c_20 => ?_) (fun c_20 => ?_)) | refine tt_icge (t := 175) (q := 23) hc dX9_areAgreed_20 rfl rfl (fun c_20 => ?_) (fun c_20 => ?_)
      · omega
      · refine tt_iconst (v := nI 1) (q := 24) hc rfl dX9_areAgreed_23 rfl ?_
        refine tt_is4 (q := 26) hc dX9_areAgreed_24 rfl (by decide) ?_
        refine a_inner hX hB hV Bc (hsg _ _ _ hv) 255 1 v0 st ν _ rfl (by decide) hPI hsg hFQ hPL e1 hv hBA hz (fun t x h => hext t x (bfs_vis _ _ _ _ _ h)) (fun ν' w4 w5 hf hp i1 i2 i3 i4 => ?_) (fun ν' hf z => hF ν' hf (z.elim (fun t ht => ⟨cur, t, Bc, ht.1, ht.2⟩)))
        refine tt_inc3 (q := 172) hc dX9_areAgreed_169 rfl (by decide) (incN _) ?_
        refine tt_goto (t := 18) hc dX9_areAgreed_172 rfl ?_
        refine ih (k + 1) v0 _ ν' _ _ (by omega) i1 i2 i3 i4 (hBA.fr hf (by decide)) (by rw [hf 24 (by decide)]; exact hz) hext (fun j c hj hjc t ht => ?_) (fun ν'' hf'' => hT ν'' (hf.tr hf'')) (fun ν'' hf'' => hF ν'' (hf.tr hf''))
        obtain ⟨e, he⟩ := scan_pre (K := K) (cur := cur) (dc := dc) (sc := sc) (blF B 255 1) st
        have hjc : (scan K cur dc sc (blF B 255 1) st).1[j]? = some c := hjc
        rw [he, List.getElem?_append_left (by omega)] at hjc
        by_cases ej : j = k
        · rw [ej, e1] at hjc
          rw [← Option.some.inj hjc]
          exact hp t ht
        · exact hdone j c (by omega) hjc t ht
    · have e1 : st.1[k]? = none := List.getElem?_eq_none (by omega)
      simp only [e1] at hext hT
      refine tt_il3 (q := 19) hc dX9_areAgreed_18 rfl ?_
      refine tt_il2 (q := 20) hc dX9_areAgreed_19 rfl ?_
      first | (with_reducible refine chk2 ?_; refine tt_icgeN (t := 175) (q := 23) hc (by omega) (by omega) dX9_areAgreed_20 rfl rfl (fun c_20 => ?_) (fun c_20 => ?_)) | refine tt_icge (t := 175) (q := 23) hc dX9_areAgreed_20 rfl rfl (fun c_20 => ?_) (fun c_20 => ?_)
      · refine tt_iconst (v := nI 1) (q := 176) hc rfl dX9_areAgreed_175 rfl ?_
        refine tt_retz hX rfl (by first | decide | exact bI_01 _) dX9_areAgreed_176 ?_
        refine hT ν frm.rf hsg hFQ (fun c hcm t ht => ?_)
        obtain ⟨j, hj⟩ := List.getElem?_of_mem hcm
        have hl := (List.getElem?_eq_some_iff.mp hj).1
        exact hdone j c (by omega) hj t ht
      · omega
set_option maxHeartbeats 2000000 in
theorem c_X9_areAgreed {l : Launch} {K : Nat} {B : HP} {v V : Vis} {s0 : Nat} {μ : Mem} {Q : Option Value → Mem → Prop} (hB : HOK K B) (hV : sg01 V) (hBA : BA μ 77 B) (hz : μ 24 0 = nI K) (hs : B s0 = true) (hv : v s0 = none) (hsg : sg01 v) (hFQ : FQ Prod.snd μ v) (hext : ∀ t x, bfsR K (bl B) v s0 t = some x → V t = some x) (hT : ∀ ν', frm [28, 29] μ ν' → sg01 (bfsR K (bl B) v s0) → FQ Prod.snd ν' (bfsR K (bl B) v s0) → (∀ c x, bfsR K (bl B) v s0 c = some x → v c = some x ∨ ∀ t ∈ bl B, prOK K V c t = true) → Q (some (.int (nI 1))) ν') (hF : ∀ ν', frm [28, 29] μ ν' → (∃ c t, B c = true ∧ B t = true ∧ prOK K V c t = false) → Q (some (.int (nI 0))) ν') : CC l 4 mX9_areAgreed [.ref 24, .int (nI s0)] μ Q := by
  refine CC.of (M := mX9_areAgreed) (by decide +kernel) rfl (fun v h => by simp at h; rcases h with rfl | rfl <;> rfl) (Nat.le_of_ble_eq_true rfl) (fun X hX => ?_)
  have hc := hX.cx
  have htot := tot_le hB
  have a28 := HA28
  have a29 := HA29
  have hlt := (hB.2 s0 hs).1
  have hfa : frm [28, 29] μ (mset (mset μ 29 (upd (μ 29) 0 (nI s0))) 28 (upd (mset μ 29 (upd (μ 29) 0 (nI s0)) 28) s0 (nI 0))) := ((frm.set (i := 29)).mono (by simp)).tr ((frm.set (i := 28)).mono (by simp))
  refine tt_iconst (v := nI 1) (q := 1) hc rfl dX9_areAgreed_0 rfl ?_
  refine tt_is2 (q := 2) hc dX9_areAgreed_1 rfl (by decide) ?_
  refine tt_al0 (q := 3) hc dX9_areAgreed_2 rfl ?_
  refine tt_getR (q := 6) hc fl_X9_34 (by first | assumption | exact ⟨by decide, _, rfl, rfl⟩) dX9_areAgreed_3 rfl ?_
  refine tt_iconst (v := nI 0) (q := 7) hc rfl dX9_areAgreed_6 rfl ?_
  refine tt_il1 (q := 8) hc dX9_areAgreed_7 rfl ?_
  refine tt_iast (q := 9) hc (by first | assumption | exact ⟨by decide, rfl, by decide⟩) (by omega) dX9_areAgreed_8 rfl ?_
  refine tt_al0 (q := 10) hc dX9_areAgreed_9 rfl ?_
  refine tt_getR (q := 13) hc fl_X9_31 (by first | assumption | exact ⟨by decide, _, rfl, rfl⟩) dX9_areAgreed_10 rfl ?_
  refine tt_il1 (q := 14) hc dX9_areAgreed_13 rfl ?_
  refine tt_iconst (v := nI 0) (q := 15) hc rfl dX9_areAgreed_14 rfl ?_
  refine tt_iast (q := 16) hc (by first | assumption | exact ⟨by decide, rfl, by decide⟩) (by omega) dX9_areAgreed_15 rfl ?_
  refine tt_iconst (v := nI 0) (q := 17) hc rfl dX9_areAgreed_16 rfl ?_
  refine tt_is3 (q := 18) hc dX9_areAgreed_17 rfl (by decide) ?_
  refine a_outer hX hB hV 256 0 (cV B v) ([s0], vset v s0 (0, 0)) _ _ _ rfl ⟨?_, fun t ht => ?_⟩ (sg01_set hsg (by decide)) (hFQ.set (by rw [mset_eq, mset_ne (by decide)])) (fun k s hk => ?_) (hBA.fr hfa (by decide)) (by rw [hfa 24 (by decide)]; exact hz) hext (fun j c hj => absurd hj (Nat.not_lt_zero _)) (fun ν' hf i1 i2 i3 => hT ν' (hfa.tr hf) i1 i2 (fun c x hcx => ?_)) (fun ν' hf => hF ν' (hfa.tr hf))
  · rw [cV_set hlt hs hv]
    simp
    omega
  · have e := List.mem_singleton.mp ht
    rw [e]
    exact ⟨hs, _, vset_eq⟩
  · cases k with
    | zero =>
      simp only [List.getElem?_cons_zero, Option.some.injEq] at hk
      rw [← hk, mset_ne (by decide), mset_eq, pk_us]
    | succ k => simp at hk
  · rcases bfs_new _ _ _ _ _ hcx with z | z
    · have z : vset v s0 (0, 0) c = some x := z
      by_cases e : c = s0
      · right
        obtain ⟨e2, h2⟩ := bfs_pre (K := K) (bs := bl B) 256 0 ([s0], vset v s0 (0, 0))
        refine i3 c ?_
        rw [h2, e]
        simp
      · rw [vset_ne e] at z
        exact Or.inl z
    · exact Or.inr (i3 c z)
theorem prsOK_iff {K : Nat} {V : Vis} (hsym : ∀ s t, prOK K V s t = prOK K V t s) : ∀ (l : List Nat), (∀ s ∈ l, prOK K V s s = true) → (prsOK K V l = true ↔ ∀ s ∈ l, ∀ t ∈ l, prOK K V s t = true)
  | [], _ => by
    constructor
    · intro _ s hs
      cases hs
    · intro _
      rfl
  | a :: r, h => by
    rw [prsOK, Bool.and_eq_true, List.all_eq_true, prsOK_iff hsym r (fun s hs => h s (List.mem_cons_of_mem _ hs))]
    constructor
    · rintro ⟨h1, h2⟩ s hs t ht
      rcases List.mem_cons.mp hs with e | hs
      · rcases List.mem_cons.mp ht with e2 | ht
        · rw [e, e2]
          exact h a List.mem_cons_self
        · rw [e]
          exact h1 t ht
      · rcases List.mem_cons.mp ht with e2 | ht
        · rw [e2, hsym]
          exact h1 s hs
        · exact h2 s hs t ht
    · intro z
      exact ⟨fun t ht => z a List.mem_cons_self t (List.mem_cons_of_mem _ ht), fun s hs t ht => z s (List.mem_cons_of_mem _ hs) t (List.mem_cons_of_mem _ ht)⟩
theorem prOK_sym (K : Nat) (V : Vis) (s t : Nat) : prOK K V s t = prOK K V t s := by
  have e1 : bsd K s t = bsd K t s := by
    unfold bsd
    rw [Nat.and_comm]
  have e2 : sam s t = sam t s := by
    unfold sam
    rw [Nat.add_comm]
  have e3 : decide (sgv V s = sgv V t) = decide (sgv V t = sgv V s) := decide_eq_decide.mpr ⟨Eq.symm, Eq.symm⟩
  rw [prOK, prOK, e1, e2, e3]
theorem tsd_iff {K : Nat} {B : HP} (hB : HOK K B) : tsd K B = true ↔ ∀ s ∈ bl B, ∀ t ∈ bl B, prOK K (ptsA K B).1 s t = true := by
  refine prsOK_iff (prOK_sym K _) (bl B) (fun s hs => ?_)
  have h1 := (hB.2 s ((bl_mem hB).mp hs)).2
  have h2 := hB.1
  have : bsd K s s = false := by
    unfold bsd
    rw [Nat.and_self]
    exact decide_eq_false (by omega)
  rw [prOK, this]
  rfl
theorem scan_sg {K cur dc sc : Nat} : ∀ (r : List Nat) (st : List Nat × Vis), sg01 st.2 → sc ≤ 1 → sg01 (scan K cur dc sc r st).2
  | [], _, h, _ => h
  | s :: r, st, h, hs => by
    rw [scan]
    split
    · exact scan_sg r _ (sg01_set h (by split <;> omega)) hs
    · exact scan_sg r st h hs
theorem bfs_sg {K : Nat} {bs : List Nat} : ∀ (f k : Nat) (st : List Nat × Vis), sg01 st.2 → sg01 (bfs K bs f k st).2
  | 0, _, _, h => h
  | f + 1, k, st, h => by
    rw [bfs]
    split
    · exact h
    · split
      · exact h
      · rename_i cur _ dc sc e2
        exact bfs_sg f (k + 1) _ (scan_sg bs st h (h _ _ _ e2))
theorem ptl_sg {K : Nat} {bs : List Nat} : ∀ (r : List Nat) (v : Vis) (m : Nat), sg01 v → sg01 (ptl K bs r v m).1
  | [], _, _, h => h
  | s :: r, v, m, h => by
    rw [ptl]
    split
    · exact ptl_sg r _ _ (bfs_sg 256 0 _ (sg01_set h (by decide)))
    · exact ptl_sg r v m h
set_option maxHeartbeats 2000000 in
theorem c_X9_isTwoSided {l : Launch} {K : Nat} {B : HP} {μ : Mem} {Q : Option Value → Mem → Prop} (hB : HOK K B) (hBA : BA μ 77 B) (hz : μ 24 0 = nI K) (hQ : ∀ ν', frm [28, 29] μ ν' → Q (some (.int (bI (tsd K B)))) ν') : CC l 5 mX9_isTwoSided [.ref 24] μ Q := by
  refine CC.of (M := mX9_isTwoSided) (by decide +kernel) rfl (fun v h => by simp at h; subst h; rfl) (Nat.le_of_ble_eq_true rfl) (fun X hX => ?_)
  have hc := hX.cx
  have htot := tot_le hB
  have a28 := HA28
  have a77 := HA77
  have hsV : sg01 (ptsA K B).1 := ptl_sg _ _ _ (fun s d g h => by cases h)
  have hall : ∀ s ∈ bl B, ∃ x, (ptsA K B).1 s = some x := fun s hs => ptl_all _ _ _ _ hs
  have ht := tsd_iff hB
  have hVe : (ptl K (bl B) (blF B 255 1) vis0 0).1 = (ptsA K B).1 := rfl
  generalize (ptsA K B).1 = V at *
  have L2 : ∀ (m s n : Nat) (v : Vis) (ν : Mem), s + m = 256 → 0 < s → frm [28, 29] μ ν → sg01 v → FQ Prod.snd ν v → (ptl K (bl B) (blF B m s) v n).1 = V → (∀ c x, v c = some x → ∀ t ∈ bl B, prOK K V c t = true) → TT X 24 [.ref 24, .int (nI s)] [] ν := by
    intro m
    induction m with
    | zero =>
      intro s n v ν hs h0 hf hsg hFQ hV hok
      have hV : v = V := hV
      refine tt_il1 (q := 25) hc dX9_isTwoSided_24 rfl ?_
      refine tt_sipush (v := nI 256) (q := 28) hc (by decide) dX9_isTwoSided_25 rfl ?_
      first | (with_reducible refine chk2 ?_; refine tt_icgeN (t := 65) (q := 31) hc (by omega) (by omega) dX9_isTwoSided_28 rfl rfl (fun c_28 => ?_) (fun c_28 => ?_)) | refine tt_icge (t := 65) (q := 31) hc dX9_isTwoSided_28 rfl rfl (fun c_28 => ?_) (fun c_28 => ?_)
      · refine tt_iconst (v := nI 1) (q := 66) hc rfl dX9_isTwoSided_65 rfl ?_
        refine tt_retz hX rfl (by first | decide | exact bI_01 _) dX9_isTwoSided_66 ?_
        have z : tsd K B = true := ht.mpr (fun c hc t h2 => by
          obtain ⟨x, hx⟩ := hall c hc
          exact hok c x (by rw [hV]; exact hx) t h2)
        have h := hQ ν hf
        rw [z] at h
        exact h
      · omega
    | succ m ih =>
      intro s n v ν hs h0 hf hsg hFQ hV hok
      have hBA := hBA.fr hf (by decide)
      have hz2 : ν 24 0 = nI K := by rw [hf 24 (by decide)]; exact hz
      rw [blF] at hV
      cases hbs : B s with
      | false =>
        rw [hbs, if_neg Bool.false_ne_true] at hV
        refine tt_il1 (q := 25) hc dX9_isTwoSided_24 rfl ?_
        refine tt_sipush (v := nI 256) (q := 28) hc (by decide) dX9_isTwoSided_25 rfl ?_
        first | (with_reducible refine chk2 ?_; refine tt_icgeN (t := 65) (q := 31) hc (by omega) (by omega) dX9_isTwoSided_28 rfl rfl (fun c_28 => ?_) (fun c_28 => ?_)) | refine tt_icge (t := 65) (q := 31) hc dX9_isTwoSided_28 rfl rfl (fun c_28 => ?_) (fun c_28 => ?_)
        · omega
        · refine tt_al0 (q := 32) hc dX9_isTwoSided_31 rfl ?_
          refine tt_getR (q := 35) hc fl_X9_15 (by first | assumption | exact ⟨by decide, _, rfl, rfl⟩) dX9_isTwoSided_32 rfl ?_
          refine tt_il1 (q := 36) hc dX9_isTwoSided_35 rfl ?_
          refine tt_zald (q := 37) hc (by first | assumption | exact ⟨by decide, rfl, by decide⟩) (by omega) dX9_isTwoSided_36 rfl ?_
          rw [hBA s (by omega), hbs]
          first | (with_reducible refine chkb ?_; refine tt_ifeqB (t := 59) (q := 40) hc dX9_isTwoSided_37 rfl rfl (fun c_37 => ?_) (fun c_37 => ?_)) | (with_reducible refine chk1 ?_; refine tt_ifeqN (t := 59) (q := 40) hc (by omega) dX9_isTwoSided_37 rfl rfl (fun c_37 => ?_) (fun c_37 => ?_)) | refine tt_ifeq (t := 59) (q := 40) hc dX9_isTwoSided_37 rfl rfl (fun c_37 => ?_) (fun c_37 => ?_)
          · first | refine tt_inc1 (q := 62) hc dX9_isTwoSided_59 rfl (by decide) (incN _) ?_ | refine tt_inc1 (q := 62) hc dX9_isTwoSided_59 rfl (by decide) rfl ?_
            refine tt_goto (t := 24) hc dX9_isTwoSided_62 rfl ?_
            exact ih (s + 1) n v ν (by omega) (by omega) hf hsg hFQ hV hok
          · cases c_37
      | true =>
        rw [hbs, if_pos rfl, ptl] at hV
        cases hvs : v s with
        | some x =>
          rw [if_neg (by rw [hvs]; exact fun z => by cases z)] at hV
          have hx1 : x.2 ≤ 1 := hsg s x.1 x.2 hvs
          refine tt_il1 (q := 25) hc dX9_isTwoSided_24 rfl ?_
          refine tt_sipush (v := nI 256) (q := 28) hc (by decide) dX9_isTwoSided_25 rfl ?_
          first | (with_reducible refine chk2 ?_; refine tt_icgeN (t := 65) (q := 31) hc (by omega) (by omega) dX9_isTwoSided_28 rfl rfl (fun c_28 => ?_) (fun c_28 => ?_)) | refine tt_icge (t := 65) (q := 31) hc dX9_isTwoSided_28 rfl rfl (fun c_28 => ?_) (fun c_28 => ?_)
          · omega
          · refine tt_al0 (q := 32) hc dX9_isTwoSided_31 rfl ?_
            refine tt_getR (q := 35) hc fl_X9_15 (by first | assumption | exact ⟨by decide, _, rfl, rfl⟩) dX9_isTwoSided_32 rfl ?_
            refine tt_il1 (q := 36) hc dX9_isTwoSided_35 rfl ?_
            refine tt_zald (q := 37) hc (by first | assumption | exact ⟨by decide, rfl, by decide⟩) (by omega) dX9_isTwoSided_36 rfl ?_
            rw [hBA s (by omega), hbs]
            first | (with_reducible refine chkb ?_; refine tt_ifeqB (t := 59) (q := 40) hc dX9_isTwoSided_37 rfl rfl (fun c_37 => ?_) (fun c_37 => ?_)) | (with_reducible refine chk1 ?_; refine tt_ifeqN (t := 59) (q := 40) hc (by omega) dX9_isTwoSided_37 rfl rfl (fun c_37 => ?_) (fun c_37 => ?_)) | refine tt_ifeq (t := 59) (q := 40) hc dX9_isTwoSided_37 rfl rfl (fun c_37 => ?_) (fun c_37 => ?_)
            · cases c_37
            · refine tt_al0 (q := 41) hc dX9_isTwoSided_40 rfl ?_
              refine tt_getR (q := 44) hc fl_X9_31 (by first | assumption | exact ⟨by decide, _, rfl, rfl⟩) dX9_isTwoSided_41 rfl ?_
              refine tt_il1 (q := 45) hc dX9_isTwoSided_44 rfl ?_
              refine tt_iald (q := 46) hc (by first | assumption | exact ⟨by decide, rfl, by decide⟩) (by omega) dX9_isTwoSided_45 rfl ?_
              rw [hFQ s (by omega), hvs]
              refine tt_ifge (t := 59) (q := 49) hc dX9_isTwoSided_46 rfl rfl (fun c_46 => ?_) (fun c_46 => ?_)
              · first | refine tt_inc1 (q := 62) hc dX9_isTwoSided_59 rfl (by decide) (incN _) ?_ | refine tt_inc1 (q := 62) hc dX9_isTwoSided_59 rfl (by decide) rfl ?_
                refine tt_goto (t := 24) hc dX9_isTwoSided_62 rfl ?_
                exact ih (s + 1) n v ν (by omega) (by omega) hf hsg hFQ hV hok
              · exact absurd (show (0 : Int32) ≤ nI x.2 from nI_pos' (by omega)) c_46
        | none =>
          rw [if_pos hvs] at hV
          have T : ∀ ν', frm [28, 29] ν ν' → sg01 (bfsR K (bl B) v s) → FQ Prod.snd ν' (bfsR K (bl B) v s) → (∀ c x, bfsR K (bl B) v s c = some x → v c = some x ∨ ∀ t ∈ bl B, prOK K V c t = true) → TT X 54 [.ref 24, .int (nI s)] [.int (nI 1)] ν' := by
            intro ν' hf' i1 i2 i3
            first | (with_reducible refine chkb ?_; refine tt_ifneB (t := 59) (q := 57) hc dX9_isTwoSided_54 rfl rfl (fun c_54 => ?_) (fun c_54 => ?_)) | (with_reducible refine chk1 ?_; refine tt_ifneN (t := 59) (q := 57) hc (by omega) dX9_isTwoSided_54 rfl rfl (fun c_54 => ?_) (fun c_54 => ?_)) | refine tt_ifne (t := 59) (q := 57) hc dX9_isTwoSided_54 rfl rfl (fun c_54 => ?_) (fun c_54 => ?_)
            · first | refine tt_inc1 (q := 62) hc dX9_isTwoSided_59 rfl (by decide) (incN _) ?_ | refine tt_inc1 (q := 62) hc dX9_isTwoSided_59 rfl (by decide) rfl ?_
              refine tt_goto (t := 24) hc dX9_isTwoSided_62 rfl ?_
              exact ih (s + 1) (n + 1) _ ν' (by omega) (by omega) (hf.tr hf') i1 i2 hV (fun c x hcx => (i3 c x hcx).elim (hok c x) id)
            · omega
          have F : ∀ ν', frm [28, 29] ν ν' → (∃ c t, B c = true ∧ B t = true ∧ prOK K V c t = false) → TT X 54 [.ref 24, .int (nI s)] [.int (nI 0)] ν' := by
            intro ν' hf' hex
            have z : tsd K B = false := by
              cases e : tsd K B
              · rfl
              · obtain ⟨c, t, h1, h2, h3⟩ := hex
                rw [ht.mp e c ((bl_mem hB).mpr h1) t ((bl_mem hB).mpr h2)] at h3
                cases h3
            have h := hQ ν' (hf.tr hf')
            rw [z] at h
            first | (with_reducible refine chkb ?_; refine tt_ifneB (t := 59) (q := 57) hc dX9_isTwoSided_54 rfl rfl (fun c_54 => ?_) (fun c_54 => ?_)) | (with_reducible refine chk1 ?_; refine tt_ifneN (t := 59) (q := 57) hc (by omega) dX9_isTwoSided_54 rfl rfl (fun c_54 => ?_) (fun c_54 => ?_)) | refine tt_ifne (t := 59) (q := 57) hc dX9_isTwoSided_54 rfl rfl (fun c_54 => ?_) (fun c_54 => ?_)
            · omega
            · refine tt_iconst (v := nI 0) (q := 58) hc rfl dX9_isTwoSided_57 rfl ?_
              refine tt_retz hX rfl (by first | decide | exact bI_01 _) dX9_isTwoSided_58 ?_
              exact h
          refine tt_il1 (q := 25) hc dX9_isTwoSided_24 rfl ?_
          refine tt_sipush (v := nI 256) (q := 28) hc (by decide) dX9_isTwoSided_25 rfl ?_
          first | (with_reducible refine chk2 ?_; refine tt_icgeN (t := 65) (q := 31) hc (by omega) (by omega) dX9_isTwoSided_28 rfl rfl (fun c_28 => ?_) (fun c_28 => ?_)) | refine tt_icge (t := 65) (q := 31) hc dX9_isTwoSided_28 rfl rfl (fun c_28 => ?_) (fun c_28 => ?_)
          · omega
          · refine tt_al0 (q := 32) hc dX9_isTwoSided_31 rfl ?_
            refine tt_getR (q := 35) hc fl_X9_15 (by first | assumption | exact ⟨by decide, _, rfl, rfl⟩) dX9_isTwoSided_32 rfl ?_
            refine tt_il1 (q := 36) hc dX9_isTwoSided_35 rfl ?_
            refine tt_zald (q := 37) hc (by first | assumption | exact ⟨by decide, rfl, by decide⟩) (by omega) dX9_isTwoSided_36 rfl ?_
            rw [hBA s (by omega), hbs]
            first | (with_reducible refine chkb ?_; refine tt_ifeqB (t := 59) (q := 40) hc dX9_isTwoSided_37 rfl rfl (fun c_37 => ?_) (fun c_37 => ?_)) | (with_reducible refine chk1 ?_; refine tt_ifeqN (t := 59) (q := 40) hc (by omega) dX9_isTwoSided_37 rfl rfl (fun c_37 => ?_) (fun c_37 => ?_)) | refine tt_ifeq (t := 59) (q := 40) hc dX9_isTwoSided_37 rfl rfl (fun c_37 => ?_) (fun c_37 => ?_)
            · cases c_37
            · refine tt_al0 (q := 41) hc dX9_isTwoSided_40 rfl ?_
              refine tt_getR (q := 44) hc fl_X9_31 (by first | assumption | exact ⟨by decide, _, rfl, rfl⟩) dX9_isTwoSided_41 rfl ?_
              refine tt_il1 (q := 45) hc dX9_isTwoSided_44 rfl ?_
              refine tt_iald (q := 46) hc (by first | assumption | exact ⟨by decide, rfl, by decide⟩) (by omega) dX9_isTwoSided_45 rfl ?_
              rw [hFQ s (by omega), hvs]
              refine tt_ifge (t := 59) (q := 49) hc dX9_isTwoSided_46 rfl rfl (fun c_46 => ?_) (fun c_46 => ?_)
              · exact absurd c_46 (by decide)
              · refine tt_al0 (q := 50) hc dX9_isTwoSided_49 rfl ?_
                refine tt_il1 (q := 51) hc dX9_isTwoSided_50 rfl ?_
                refine tt_cV1 (q := 54) (d' := 4) (ci := 9) hc (by first | decide | omega) kmX9_areAgreed ml_X9_188 (by first | assumption | exact ⟨by decide, _, rfl⟩) rfl (Nat.le_of_ble_eq_true rfl) dX9_isTwoSided_51 rfl ?_
                exact c_X9_areAgreed hB hsV hBA hz2 hbs hvs hsg hFQ (fun t x h => by rw [← hV]; exact ptl_vis _ _ _ _ _ h) T F
                skip
  have L1 : ∀ (m s : Nat) (ν : Mem), s + m = 256 → frm [28, 29] μ ν → (∀ t, t < s → ν 28 t = -1) → TT X 2 [.ref 24, .int (nI s)] [] ν := by
    intro m
    induction m with
    | zero =>
      intro s ν hs hf hv
      refine tt_il1 (q := 3) hc dX9_isTwoSided_2 rfl ?_
      refine tt_sipush (v := nI 256) (q := 6) hc (by decide) dX9_isTwoSided_3 rfl ?_
      first | (with_reducible refine chk2 ?_; refine tt_icgeN (t := 22) (q := 9) hc (by omega) (by omega) dX9_isTwoSided_6 rfl rfl (fun c_6 => ?_) (fun c_6 => ?_)) | refine tt_icge (t := 22) (q := 9) hc dX9_isTwoSided_6 rfl rfl (fun c_6 => ?_) (fun c_6 => ?_)
      · refine tt_iconst (v := nI 1) (q := 23) hc rfl dX9_isTwoSided_22 rfl ?_
        refine tt_is1 (q := 24) hc dX9_isTwoSided_23 rfl (by decide) ?_
        exact L2 255 1 0 vis0 ν rfl (by decide) hf (fun s d g h => by cases h) (fun t ht => hv t (by omega)) hVe (fun c x h => by cases h)
      · omega
    | succ m ih =>
      intro s ν hs hf hv
      refine tt_il1 (q := 3) hc dX9_isTwoSided_2 rfl ?_
      refine tt_sipush (v := nI 256) (q := 6) hc (by decide) dX9_isTwoSided_3 rfl ?_
      first | (with_reducible refine chk2 ?_; refine tt_icgeN (t := 22) (q := 9) hc (by omega) (by omega) dX9_isTwoSided_6 rfl rfl (fun c_6 => ?_) (fun c_6 => ?_)) | refine tt_icge (t := 22) (q := 9) hc dX9_isTwoSided_6 rfl rfl (fun c_6 => ?_) (fun c_6 => ?_)
      · omega
      · refine tt_al0 (q := 10) hc dX9_isTwoSided_9 rfl ?_
        refine tt_getR (q := 13) hc fl_X9_31 (by first | assumption | exact ⟨by decide, _, rfl, rfl⟩) dX9_isTwoSided_10 rfl ?_
        refine tt_il1 (q := 14) hc dX9_isTwoSided_13 rfl ?_
        refine tt_iconst (v := -1) (q := 15) hc rfl dX9_isTwoSided_14 rfl ?_
        refine tt_iast (q := 16) hc (by first | assumption | exact ⟨by decide, rfl, by decide⟩) (by omega) dX9_isTwoSided_15 rfl ?_
        first | refine tt_inc1 (q := 19) hc dX9_isTwoSided_16 rfl (by decide) (incN _) ?_ | refine tt_inc1 (q := 19) hc dX9_isTwoSided_16 rfl (by decide) rfl ?_
        refine tt_goto (t := 2) hc dX9_isTwoSided_19 rfl ?_
        refine ih (s + 1) _ (by omega) (hf.tr ((frm.set (i := 28)).mono (by simp))) (fun t ht => ?_)
        rw [mset_eq]
        by_cases e : t = s
        · rw [e, pk_us]
        · rw [pk_un e]
          exact hv t (by omega)
  refine tt_iconst (v := nI 0) (q := 1) hc rfl dX9_isTwoSided_0 rfl ?_
  refine tt_is1 (q := 2) hc dX9_isTwoSided_1 rfl (by decide) ?_
  exact L1 256 0 μ rfl frm.rf (fun t ht => absurd ht (Nat.not_lt_zero _))
