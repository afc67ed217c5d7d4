/-! WAYS: spreading from body to body (one text for both classes) -/
/-- the bodies among n sets from i on -/
def blF (B : Nat → Bool) : Nat → Nat → List Nat
  | 0, _ => []
  | n + 1, i => if B i = true then i :: blF B n (i + 1) else blF B n (i + 1)
def bl (B : Nat → Bool) : List Nat := blF B 255 1
theorem blF_len (B : Nat → Bool) : ∀ n i, (blF B n i).length = cnt B n i
  | 0, _ => rfl
  | n + 1, i => by
    rw [blF, cnt]
    have := blF_len B n (i + 1)
    split
    · rw [List.length_cons]
      omega
    · omega
theorem bl_len {K : Nat} {B : Nat → Bool} (h : HOK K B) : (bl B).length = tot B := by
  have h0 : B 0 = false := by
    cases e : B 0
    · rfl
    · have := (h.2 0 e).2
      have p0 : pop 0 = 0 := by decide
      rcases h.1 with z | z <;> omega
  rw [bl, blF_len, tot]
  show cnt B 255 1 = (if B 0 = true then 1 else 0) + cnt B 255 1
  rw [h0]
  simp
theorem blF_mem (B : Nat → Bool) : ∀ n i s, s ∈ blF B n i ↔ (i ≤ s ∧ s < i + n ∧ B s = true)
  | 0, i, s => by
    simp only [blF, List.not_mem_nil, false_iff]
    omega
  | n + 1, i, s => by
    rw [blF]
    have := blF_mem B n (i + 1) s
    by_cases e : s = i
    · subst e
      by_cases hb : B s = true
      · rw [if_pos hb]
        simp [hb]
      · rw [if_neg hb, this]
        simp [hb]
    · by_cases hb : B i = true
      · rw [if_pos hb, List.mem_cons, this]
        constructor
        · rintro (z | z)
          · exact absurd z e
          · exact ⟨by omega, by omega, z.2.2⟩
        · intro z
          exact Or.inr ⟨by omega, by omega, z.2.2⟩
      · rw [if_neg hb, this]
        constructor
        · intro z
          exact ⟨by omega, by omega, z.2.2⟩
        · intro z
          exact ⟨by omega, by omega, z.2.2⟩
theorem bl_mem {K : Nat} {B : Nat → Bool} (h : HOK K B) {s : Nat} : s ∈ bl B ↔ B s = true := by
  rw [bl, blF_mem]
  constructor
  · exact fun z => z.2.2
  · intro z
    have h1 := h.2 s z
    have p0 : pop 0 = 0 := by decide
    refine ⟨?_, by omega, z⟩
    rcases Nat.eq_zero_or_pos s with e | e
    · rw [e, p0] at h1
      rcases h.1 with z | z <;> omega
    · exact e
/-- numbers BESIDE; one sign -/
def bsd (K a b : Nat) : Bool := decide (pop (a &&& b) = K - 1)
def alo (a b : Nat) : Nat := a ^^^ (a &&& b)
def sam (a b : Nat) : Bool := decide ((pop (a &&& (alo a b - 1)) + pop (b &&& (alo b a - 1))) % 2 = 1)
theorem alo_pos {a b : Nat} (h : pop (a &&& b) < pop a) : 0 < alo a b := by
  rcases Nat.eq_zero_or_pos (alo a b) with z | z
  · have e : a = a &&& b := Nat.eq_of_testBit_eq (fun i => by
      have h2 := congrArg (fun n => Nat.testBit n i) z
      simp only [alo, Nat.testBit_xor, Nat.zero_testBit] at h2
      cases h3 : a.testBit i <;> cases h4 : (a &&& b).testBit i <;> simp_all)
    rw [← e] at h
    exact absurd h (Nat.lt_irrefl _)
  · exact z
theorem alo_lt {a b : Nat} (ha : a < 256) : alo a b < 256 := Nat.xor_lt_two_pow (n := 8) ha (and_lt ha)
abbrev Vis : Type := Nat → Option (Nat × Nat)
def vset (v : Vis) (s : Nat) (x : Nat × Nat) : Vis := fun t => if t = s then some x else v t
/-- from cur, at dc steps with sign sc, over some bodies: what is found comes behind the pile -/
def scan (K cur dc sc : Nat) : List Nat → List Nat × Vis → List Nat × Vis
  | [], st => st
  | s :: r, st => if st.2 s = none ∧ bsd K cur s = true then scan K cur dc sc r (st.1 ++ [s], vset st.2 s (dc + 1, if sam cur s = true then sc else 1 - sc)) else scan K cur dc sc r st
/-- the whole pile, from place k on -/
def bfs (K : Nat) (bs : List Nat) : Nat → Nat → List Nat × Vis → List Nat × Vis
  | 0, _, st => st
  | f + 1, k, st => match st.1[k]? with
    | none => st
    | some cur => match st.2 cur with
      | none => st
      | some (dc, sc) => bfs K bs f (k + 1) (scan K cur dc sc bs st)
def bfsR (K : Nat) (bs : List Nat) (v : Vis) (from_ : Nat) : Vis := (bfs K bs 256 0 ([from_], vset v from_ (0, 0))).2
/-- signs are 0 or 1 -/
def sg01 (v : Vis) : Prop := ∀ s d g, v s = some (d, g) → g ≤ 1
def vis0 : Vis := fun _ => none
/-- steps as a number -/
def stI (x : Option (Nat × Nat)) : Int32 := match x with
  | none => -5
  | some (d, _) => nI d
/-- the cells of Ways -/
def WR (μ : Mem) (K : Nat) (bs : List Nat) (v : Vis) : Prop := μ 6 4 = nI bs.length ∧ μ 6 5 = nI K ∧ ∀ i s, bs[i]? = some s → μ 7 i = nI s ∧ μ 8 i = stI (v s) ∧ ∀ d g, v s = some (d, g) → μ 9 i = nI g
/-- the bodies' cells alone -/
def WB (μ : Mem) (K : Nat) (bs : List Nat) : Prop := μ 6 4 = nI bs.length ∧ μ 6 5 = nI K ∧ ∀ i s, bs[i]? = some s → μ 7 i = nI s
theorem WR.b {μ : Mem} {K : Nat} {bs : List Nat} {v : Vis} (h : WR μ K bs v) : WB μ K bs := ⟨h.1, h.2.1, fun i s hi => (h.2.2 i s hi).1⟩
theorem WB.frm {μ μ' : Mem} {K : Nat} {bs : List Nat} {l : List Nat} (h : WB μ K bs) (hf : frm l μ μ') (h6 : 6 ∉ l) (h7 : 7 ∉ l) : WB μ' K bs := by
  have e6 := hf 6 h6
  have e7 := hf 7 h7
  exact ⟨by rw [e6]; exact h.1, by rw [e6]; exact h.2.1, fun i s hi => by rw [e7]; exact h.2.2 i s hi⟩
theorem HA7 : HA 7 0 70 := ⟨by decide, rfl, by decide⟩
theorem HA8 : HA 8 0 70 := ⟨by decide, rfl, by decide⟩
theorem HA9 : HA 9 0 70 := ⟨by decide, rfl, by decide⟩
theorem HA10 : HA 10 0 70 := ⟨by decide, rfl, by decide⟩
set_option maxHeartbeats 4000000 in
theorem c_X7_load {l : Launch} {j K : Nat} (hj : j < 16) {B : Nat → Bool} {μ : Mem} {Q : Option Value → Mem → Prop} (hR : RC μ j K B) (hQ : ∀ μ', frm [6, 7, 8] μ μ' → WR μ' K (bl B) vis0 → Q none μ') : CC l 2 mX7_load [.ref 6, .ref (40 + 2 * j)] μ Q := by
  refine CC.of (M := mX7_load) (by decide +kernel) rfl (fun v h => by simp at h; rcases h with rfl | rfl <;> rfl) (Nat.le_of_ble_eq_true rfl) (fun X hX => ?_)
  have hc := hX.cx
  have ho : HO (40 + 2 * j) 0 := ⟨by omega, _, sh_ho hj⟩
  have hk : HI (40 + 2 * j) 0 0 := ⟨by omega, _, sh_ho hj, _, rfl⟩
  have htot := tot_le hR.1
  rw [← bl_len hR.1] at htot
  have a7 := HA7
  have a8 := HA8
  have L : ∀ (n s : Nat) (pre : List Nat) (ν : Mem), s + n = 256 → pre ++ blF B n s = bl B → RC ν j K B → ν 6 4 = nI pre.length → ν 6 5 = nI K → (∀ i t, pre[i]? = some t → ν 7 i = nI t ∧ ν 8 i = -5) → (∀ ν', frm [6, 7, 8] ν ν' → WR ν' K (bl B) vis0 → Q none ν') → TT X 15 [.ref 6, .ref (40 + 2 * j), .int (nI s)] [] ν := by
    intro n
    induction n with
    | zero =>
      intro s pre ν hs hpre hR h4 h5 hv h
      simp only [blF, List.append_nil] at hpre
      refine tt_il2 (q := 16) hc dX7_load_15 rfl ?_
      refine tt_sipush (v := nI 256) (q := 19) hc (by decide) dX7_load_16 rfl ?_
      first | (with_reducible refine chk2 ?_; refine tt_icgeN (t := 76) (q := 22) hc (by omega) (by omega) dX7_load_19 rfl rfl (fun c_19 => ?_) (fun c_19 => ?_)) | refine tt_icge (t := 76) (q := 22) hc dX7_load_19 rfl rfl (fun c_19 => ?_) (fun c_19 => ?_)
      · refine tt_retv hX rfl dX7_load_76 ?_
        rw [hpre] at h4 hv
        exact h ν frm.rf ⟨h4, h5, fun i t ht => ⟨(hv i t ht).1, (hv i t ht).2, fun d g z => by cases z⟩⟩
      · omega
    | succ n ih =>
      intro s pre ν hs hpre hR h4 h5 hv h
      rw [blF] at hpre
      have hlen : B s = true → pre.length < 70 := by
        intro hB
        rw [if_pos hB] at hpre
        have := congrArg List.length hpre
        rw [List.length_append, List.length_cons] at this
        omega
      have hlen2 : pre.length ≤ 70 := by
        have := congrArg List.length hpre
        rw [List.length_append] at this
        omega
      refine tt_il2 (q := 16) hc dX7_load_15 rfl ?_
      refine tt_sipush (v := nI 256) (q := 19) hc (by decide) dX7_load_16 rfl ?_
      first | (with_reducible refine chk2 ?_; refine tt_icgeN (t := 76) (q := 22) hc (by omega) (by omega) dX7_load_19 rfl rfl (fun c_19 => ?_) (fun c_19 => ?_)) | refine tt_icge (t := 76) (q := 22) hc dX7_load_19 rfl rfl (fun c_19 => ?_) (fun c_19 => ?_)
      · omega
      · refine tt_al1 (q := 23) hc dX7_load_22 rfl ?_
        refine tt_il2 (q := 24) hc dX7_load_23 rfl ?_
        refine tt_cV1 (q := 27) (d' := 1) (ci := 0) hc (by decide) kmX0_isBody ml_X7_34 (by first | assumption | exact ⟨by decide, _, rfl⟩) rfl (Nat.le_of_ble_eq_true rfl) dX7_load_24 rfl ?_
        refine c_X0_isBody hj hR ?_
        dsimp only [Option.toList, List.nil_append, List.cons_append]
        first | (with_reducible refine chkb ?_; refine tt_ifeqB (t := 70) (q := 30) hc dX7_load_27 rfl rfl (fun c_27 => ?_) (fun c_27 => ?_)) | (with_reducible refine chk1 ?_; refine tt_ifeqN (t := 70) (q := 30) hc (by omega) dX7_load_27 rfl rfl (fun c_27 => ?_) (fun c_27 => ?_)) | refine tt_ifeq (t := 70) (q := 30) hc dX7_load_27 rfl rfl (fun c_27 => ?_) (fun c_27 => ?_)
        · first | refine tt_inc2 (q := 73) hc dX7_load_70 rfl (by decide) (incN _) ?_ | refine tt_inc2 (q := 73) hc dX7_load_70 rfl (by decide) rfl ?_
          refine tt_goto (t := 15) hc dX7_load_73 rfl ?_
          first
          | (rw [if_neg (by rw [c_27]; exact Bool.false_ne_true)] at hpre; exact ih _ _ _ (by omega) hpre hR h4 h5 hv h)
          | rw [if_pos c_27] at hpre
            have hf : frm [6, 7, 8] ν (mset (mset (mset ν 7 (upd (ν 7) pre.length (nI s))) 8 (upd (mset ν 7 (upd (ν 7) pre.length (nI s)) 8) pre.length (-5))) 6 (upd (mset (mset ν 7 (upd (ν 7) pre.length (nI s))) 8 (upd (mset ν 7 (upd (ν 7) pre.length (nI s)) 8) pre.length (-5)) 6) 4 (nI (pre.length + 1)))) := ((frm.set (i := 7)).mono (by simp)).tr (((frm.set (i := 8)).mono (by simp)).tr ((frm.set (i := 6)).mono (by simp)))
            refine ih _ (pre ++ [s]) _ (by omega) (by rw [List.append_assoc]; exact hpre) (hR.frm hf (by simp; omega) (by simp; omega)) (by rw [mset_eq, pk_us, List.length_append]; rfl) (by rw [mset_eq, pk_un (by decide), mset_ne (by decide), mset_ne (by decide)]; exact h5) (fun i t ht => ?_) (fun ν' hf' hw => h ν' (hf.tr hf') hw)
            rw [mset_ne (by decide), mset_ne (by decide), mset_eq, mset_ne (by decide), mset_eq, mset_ne (by decide)]
            by_cases e : i < pre.length
            · rw [List.getElem?_append_left e] at ht
              rw [pk_un (by omega), pk_un (by omega)]
              exact hv i t ht
            · have hl := (List.getElem?_eq_some_iff.mp ht).1
              rw [List.length_append, List.length_cons, List.length_nil] at hl
              have e2 : i = pre.length := by omega
              subst e2
              rw [List.getElem?_append_right (Nat.le_refl _), Nat.sub_self] at ht
              simp only [List.getElem?_cons_zero, Option.some.injEq] at ht
              rw [pk_us, pk_us, ht]
              exact ⟨rfl, rfl⟩
        · refine tt_al0 (q := 31) hc dX7_load_30 rfl ?_
          refine tt_getI (q := 34) hc fl_X7_31 (by first | assumption | exact ⟨by decide, _, rfl, _, rfl⟩) dX7_load_31 rfl ?_
          rw [h4]
          refine tt_bipush (v := nI 70) (q := 36) hc (by decide) dX7_load_34 rfl ?_
          first | (with_reducible refine chk2 ?_; refine tt_icgeN (t := 70) (q := 39) hc (by omega) (by omega) dX7_load_36 rfl rfl (fun c_36 => ?_) (fun c_36 => ?_)) | refine tt_icge (t := 70) (q := 39) hc dX7_load_36 rfl rfl (fun c_36 => ?_) (fun c_36 => ?_)
          · exact absurd (hlen c_27) (by omega)
          · refine tt_al0 (q := 40) hc dX7_load_39 rfl ?_
            refine tt_getR (q := 43) hc fl_X7_9 (by first | assumption | exact ⟨by decide, _, rfl, rfl⟩) dX7_load_40 rfl ?_
            refine tt_al0 (q := 44) hc dX7_load_43 rfl ?_
            refine tt_getI (q := 47) hc fl_X7_31 (by first | assumption | exact ⟨by decide, _, rfl, _, rfl⟩) dX7_load_44 rfl ?_
            rw [h4]
            refine tt_il2 (q := 48) hc dX7_load_47 rfl ?_
            refine tt_iast (q := 49) hc (by first | assumption | exact ⟨by decide, rfl, by decide⟩) (by omega) dX7_load_48 rfl ?_
            refine tt_al0 (q := 50) hc dX7_load_49 rfl ?_
            refine tt_getR (q := 53) hc fl_X7_15 (by first | assumption | exact ⟨by decide, _, rfl, rfl⟩) dX7_load_50 rfl ?_
            refine tt_al0 (q := 54) hc dX7_load_53 rfl ?_
            refine tt_getI (q := 57) hc fl_X7_31 (by first | assumption | exact ⟨by decide, _, rfl, _, rfl⟩) dX7_load_54 rfl ?_
            rw [mset_ne (by decide), h4]
            refine tt_bipush (v := -5) (q := 59) hc (by decide) dX7_load_57 rfl ?_
            refine tt_iast (q := 60) hc (by first | assumption | exact ⟨by decide, rfl, by decide⟩) (by omega) dX7_load_59 rfl ?_
            refine tt_al0 (q := 61) hc dX7_load_60 rfl ?_
            refine tt_dup (q := 62) hc rfl dX7_load_61 rfl ?_
            refine tt_getI (q := 65) hc fl_X7_31 (by first | assumption | exact ⟨by decide, _, rfl, _, rfl⟩) dX7_load_62 rfl ?_
            rw [mset_ne (by decide), mset_ne (by decide), h4]
            refine tt_iconst (v := nI 1) (q := 66) hc rfl dX7_load_65 rfl ?_
            first | (with_reducible refine chk2 ?_; refine tt_iaddN (q := 67) hc dX7_load_66 rfl ?_) | refine tt_iadd (q := 67) hc dX7_load_66 rfl ?_
            refine tt_putI (q := 70) hc fp_X7_31 (by first | assumption | exact ⟨by decide, _, rfl, _, rfl⟩) dX7_load_67 rfl ?_
            first | refine tt_inc2 (q := 73) hc dX7_load_70 rfl (by decide) (incN _) ?_ | refine tt_inc2 (q := 73) hc dX7_load_70 rfl (by decide) rfl ?_
            refine tt_goto (t := 15) hc dX7_load_73 rfl ?_
            first
            | (rw [if_neg (by rw [c_27]; exact Bool.false_ne_true)] at hpre; exact ih _ _ _ (by omega) hpre hR h4 h5 hv h)
            | rw [if_pos c_27] at hpre
              have hf : frm [6, 7, 8] ν (mset (mset (mset ν 7 (upd (ν 7) pre.length (nI s))) 8 (upd (mset ν 7 (upd (ν 7) pre.length (nI s)) 8) pre.length (-5))) 6 (upd (mset (mset ν 7 (upd (ν 7) pre.length (nI s))) 8 (upd (mset ν 7 (upd (ν 7) pre.length (nI s)) 8) pre.length (-5)) 6) 4 (nI (pre.length + 1)))) := ((frm.set (i := 7)).mono (by simp)).tr (((frm.set (i := 8)).mono (by simp)).tr ((frm.set (i := 6)).mono (by simp)))
              refine ih _ (pre ++ [s]) _ (by omega) (by rw [List.append_assoc]; exact hpre) (hR.frm hf (by simp; omega) (by simp; omega)) (by rw [mset_eq, pk_us, List.length_append]; rfl) (by rw [mset_eq, pk_un (by decide), mset_ne (by decide), mset_ne (by decide)]; exact h5) (fun i t ht => ?_) (fun ν' hf' hw => h ν' (hf.tr hf') hw)
              rw [mset_ne (by decide), mset_ne (by decide), mset_eq, mset_ne (by decide), mset_eq, mset_ne (by decide)]
              by_cases e : i < pre.length
              · rw [List.getElem?_append_left e] at ht
                rw [pk_un (by omega), pk_un (by omega)]
                exact hv i t ht
              · have hl := (List.getElem?_eq_some_iff.mp ht).1
                rw [List.length_append, List.length_cons, List.length_nil] at hl
                have e2 : i = pre.length := by omega
                subst e2
                rw [List.getElem?_append_right (Nat.le_refl _), Nat.sub_self] at ht
                simp only [List.getElem?_cons_zero, Option.some.injEq] at ht
                rw [pk_us, pk_us, ht]
                exact ⟨rfl, rfl⟩
  refine tt_al0 (q := 1) hc dX7_load_0 rfl ?_
  refine tt_al1 (q := 2) hc dX7_load_1 rfl ?_
  refine tt_getI (q := 5) hc fl_X7_24 (by first | assumption | exact ⟨by decide, _, rfl, _, rfl⟩) dX7_load_2 rfl ?_
  rw [hR.2.1]
  refine tt_putI (q := 8) hc fp_X7_30 (by first | assumption | exact ⟨by decide, _, rfl, _, rfl⟩) dX7_load_5 rfl ?_
  refine tt_al0 (q := 9) hc dX7_load_8 rfl ?_
  refine tt_iconst (v := nI 0) (q := 10) hc rfl dX7_load_9 rfl ?_
  refine tt_putI (q := 13) hc fp_X7_31 (by first | assumption | exact ⟨by decide, _, rfl, _, rfl⟩) dX7_load_10 rfl ?_
  refine tt_iconst (v := nI 1) (q := 14) hc rfl dX7_load_13 rfl ?_
  refine tt_is2 (q := 15) hc dX7_load_14 rfl (by decide) ?_
  have hf : frm [6] μ (mset (mset μ 6 (upd (μ 6) 5 (nI K))) 6 (upd (mset μ 6 (upd (μ 6) 5 (nI K)) 6) 4 (nI 0))) := frm.set.tr frm.set
  refine L 255 1 [] _ rfl rfl (hR.frm hf (by simp; omega) (by simp; omega)) (by rw [mset_eq, pk_us]; rfl) (by rw [mset_eq, pk_un (by decide), mset_eq, pk_us]) (fun i t h => by simp at h) (fun ν' hf' hw => hQ ν' ((hf.mono (by simp)).tr hf') hw)
theorem c_X7_beside {l : Launch} {K a b ia ib : Nat} {bs : List Nat} {μ : Mem} {Q : Option Value → Mem → Prop} (hK : K = 3 ∨ K = 4) (hW : WB μ K bs) (hb : ∀ s ∈ bs, s < 256) (hlen : bs.length ≤ 70) (ha : bs[ia]? = some a) (hb2 : bs[ib]? = some b) (hQ : Q (some (.int (bI (bsd K a b)))) μ) : CC l 1 mX7_beside [.ref 6, .int (nI ia), .int (nI ib)] μ Q := by
  refine CC.of (M := mX7_beside) (by decide +kernel) rfl (fun v h => by simp at h; rcases h with rfl | rfl | rfl <;> rfl) (Nat.le_of_ble_eq_true rfl) (fun X hX => ?_)
  have hc := hX.cx
  have l1 := (List.getElem?_eq_some_iff.mp ha).1
  have l2 := (List.getElem?_eq_some_iff.mp hb2).1
  have b1 := hb a (List.mem_of_getElem? ha)
  have b3 : a &&& b < 256 := and_lt b1
  have b4 := pop_le _ b3
  refine tt_al0 (q := 1) hc dX7_beside_0 rfl ?_
  refine tt_getR (q := 4) hc fl_X7_9 (by first | assumption | exact ⟨by decide, _, rfl, rfl⟩) dX7_beside_1 rfl ?_
  refine tt_il1 (q := 5) hc dX7_beside_4 rfl ?_
  refine tt_iald (q := 6) hc (by first | assumption | exact ⟨by decide, rfl, by decide⟩) (by omega) dX7_beside_5 rfl ?_
  rw [hW.2.2 ia a ha]
  refine tt_al0 (q := 7) hc dX7_beside_6 rfl ?_
  refine tt_getR (q := 10) hc fl_X7_9 (by first | assumption | exact ⟨by decide, _, rfl, rfl⟩) dX7_beside_7 rfl ?_
  refine tt_il2 (q := 11) hc dX7_beside_10 rfl ?_
  refine tt_iald (q := 12) hc (by first | assumption | exact ⟨by decide, rfl, by decide⟩) (by omega) dX7_beside_11 rfl ?_
  rw [hW.2.2 ib b hb2]
  first | (with_reducible refine chk2 ?_; refine tt_iandN (q := 13) hc dX7_beside_12 rfl ?_) | (with_reducible refine chkan ?_; refine tt_iandnN (q := 13) hc dX7_beside_12 rfl ?_) | (with_reducible refine chkna ?_; refine tt_inandN (q := 13) hc dX7_beside_12 rfl ?_) | refine tt_iand (q := 13) hc dX7_beside_12 rfl ?_
  refine tt_cS1 (q := 16) (d' := 0) hc (by decide) kmJ6_bitCount_0f7a4 ml_X7_38 (Nat.le_of_ble_eq_true rfl) dX7_beside_13 rfl ?_
  refine c_J6_bitCount_0f7a4 ?_
  dsimp only [Option.toList, List.nil_append, List.cons_append]
  refine tt_al0 (q := 17) hc dX7_beside_16 rfl ?_
  refine tt_getI (q := 20) hc fl_X7_30 (by first | assumption | exact ⟨by decide, _, rfl, _, rfl⟩) dX7_beside_17 rfl ?_
  rw [hW.2.1]
  refine tt_iconst (v := nI 1) (q := 21) hc rfl dX7_beside_20 rfl ?_
  first | (with_reducible refine chk2 ?_; refine tt_isubN (q := 22) hc (by omega) dX7_beside_21 rfl ?_) | refine tt_isub (q := 22) hc dX7_beside_21 rfl ?_
  first | (with_reducible refine chk2 ?_; refine tt_icneN (t := 29) (q := 25) hc (by omega) (by omega) dX7_beside_22 rfl rfl (fun c_22 => ?_) (fun c_22 => ?_)) | refine tt_icne (t := 29) (q := 25) hc dX7_beside_22 rfl rfl (fun c_22 => ?_) (fun c_22 => ?_)
  · refine tt_iconst (v := nI 0) (q := 30) hc rfl dX7_beside_29 rfl ?_
    refine tt_retz hX rfl (by first | decide | exact bI_01 _) dX7_beside_30 ?_
    first | (refine qb1 hQ ?_; rw [bsd, decide_eq_true c_22]) | (refine qb0 hQ ?_; rw [bsd, decide_eq_false c_22])
  · refine tt_iconst (v := nI 1) (q := 26) hc rfl dX7_beside_25 rfl ?_
    refine tt_goto (t := 30) hc dX7_beside_26 rfl ?_
    refine tt_retz hX rfl (by first | decide | exact bI_01 _) dX7_beside_30 ?_
    first | (refine qb1 hQ ?_; rw [bsd, decide_eq_true c_22]) | (refine qb0 hQ ?_; rw [bsd, decide_eq_false c_22])
set_option maxHeartbeats 4000000 in
theorem c_X7_sameSign {l : Launch} {K a b ia ib : Nat} {bs : List Nat} {μ : Mem} {Q : Option Value → Mem → Prop} (hW : WB μ K bs) (hb : ∀ s ∈ bs, s < 256) (hlen : bs.length ≤ 70) (ha : bs[ia]? = some a) (hb2 : bs[ib]? = some b) (hx : 0 < alo a b) (hy : 0 < alo b a) (hQ : Q (some (.int (bI (sam a b)))) μ) : CC l 1 mX7_sameSign [.ref 6, .int (nI ia), .int (nI ib)] μ Q := by
  refine CC.of (M := mX7_sameSign) (by decide +kernel) rfl (fun v h => by simp at h; rcases h with rfl | rfl | rfl <;> rfl) (Nat.le_of_ble_eq_true rfl) (fun X hX => ?_)
  have hc := hX.cx
  have l1 := (List.getElem?_eq_some_iff.mp ha).1
  have l2 := (List.getElem?_eq_some_iff.mp hb2).1
  have b1 := hb a (List.mem_of_getElem? ha)
  have b2 := hb b (List.mem_of_getElem? hb2)
  have b3 : a &&& (alo a b - 1) < 256 := and_lt b1
  have b4 : b &&& (alo b a - 1) < 256 := and_lt b2
  have b5 := pop_le _ b3
  have b6 := pop_le _ b4
  have ea : a ^^^ (a &&& b) = alo a b := rfl
  have eb : b ^^^ (b &&& a) = alo b a := rfl
  have hm := Nat.mod_lt (pop (a &&& (alo a b - 1)) + pop (b &&& (alo b a - 1))) (show 2 > 0 by decide)
  refine tt_al0 (q := 1) hc dX7_sameSign_0 rfl ?_
  refine tt_getR (q := 4) hc fl_X7_9 (by first | assumption | exact ⟨by decide, _, rfl, rfl⟩) dX7_sameSign_1 rfl ?_
  refine tt_il1 (q := 5) hc dX7_sameSign_4 rfl ?_
  refine tt_iald (q := 6) hc (by first | assumption | exact ⟨by decide, rfl, by decide⟩) (by omega) dX7_sameSign_5 rfl ?_
  rw [hW.2.2 ia a ha]
  refine tt_al0 (q := 7) hc dX7_sameSign_6 rfl ?_
  refine tt_getR (q := 10) hc fl_X7_9 (by first | assumption | exact ⟨by decide, _, rfl, rfl⟩) dX7_sameSign_7 rfl ?_
  refine tt_il2 (q := 11) hc dX7_sameSign_10 rfl ?_
  refine tt_iald (q := 12) hc (by first | assumption | exact ⟨by decide, rfl, by decide⟩) (by omega) dX7_sameSign_11 rfl ?_
  rw [hW.2.2 ib b hb2]
  refine tt_iconst (v := -1) (q := 13) hc rfl dX7_sameSign_12 rfl ?_
  first | (with_reducible refine chk2 ?_; refine tt_ixorN (q := 14) hc dX7_sameSign_13 rfl ?_) | refine tt_ixor (q := 14) hc dX7_sameSign_13 rfl ?_
  first | (with_reducible refine chk2 ?_; refine tt_iandN (q := 15) hc dX7_sameSign_14 rfl ?_) | (with_reducible refine chkan ?_; refine tt_iandnN (q := 15) hc dX7_sameSign_14 rfl ?_) | (with_reducible refine chkna ?_; refine tt_inandN (q := 15) hc dX7_sameSign_14 rfl ?_) | refine tt_iand (q := 15) hc dX7_sameSign_14 rfl ?_
  rw [ea]
  refine tt_is3 (q := 16) hc dX7_sameSign_15 rfl (by decide) ?_
  refine tt_al0 (q := 17) hc dX7_sameSign_16 rfl ?_
  refine tt_getR (q := 20) hc fl_X7_9 (by first | assumption | exact ⟨by decide, _, rfl, rfl⟩) dX7_sameSign_17 rfl ?_
  refine tt_il2 (q := 21) hc dX7_sameSign_20 rfl ?_
  refine tt_iald (q := 22) hc (by first | assumption | exact ⟨by decide, rfl, by decide⟩) (by omega) dX7_sameSign_21 rfl ?_
  rw [hW.2.2 ib b hb2]
  refine tt_al0 (q := 23) hc dX7_sameSign_22 rfl ?_
  refine tt_getR (q := 26) hc fl_X7_9 (by first | assumption | exact ⟨by decide, _, rfl, rfl⟩) dX7_sameSign_23 rfl ?_
  refine tt_il1 (q := 27) hc dX7_sameSign_26 rfl ?_
  refine tt_iald (q := 28) hc (by first | assumption | exact ⟨by decide, rfl, by decide⟩) (by omega) dX7_sameSign_27 rfl ?_
  rw [hW.2.2 ia a ha]
  refine tt_iconst (v := -1) (q := 29) hc rfl dX7_sameSign_28 rfl ?_
  first | (with_reducible refine chk2 ?_; refine tt_ixorN (q := 30) hc dX7_sameSign_29 rfl ?_) | refine tt_ixor (q := 30) hc dX7_sameSign_29 rfl ?_
  first | (with_reducible refine chk2 ?_; refine tt_iandN (q := 31) hc dX7_sameSign_30 rfl ?_) | (with_reducible refine chkan ?_; refine tt_iandnN (q := 31) hc dX7_sameSign_30 rfl ?_) | (with_reducible refine chkna ?_; refine tt_inandN (q := 31) hc dX7_sameSign_30 rfl ?_) | refine tt_iand (q := 31) hc dX7_sameSign_30 rfl ?_
  rw [eb]
  refine tt_is4 (q := 33) hc dX7_sameSign_31 rfl (by decide) ?_
  refine tt_al0 (q := 34) hc dX7_sameSign_33 rfl ?_
  refine tt_getR (q := 37) hc fl_X7_9 (by first | assumption | exact ⟨by decide, _, rfl, rfl⟩) dX7_sameSign_34 rfl ?_
  refine tt_il1 (q := 38) hc dX7_sameSign_37 rfl ?_
  refine tt_iald (q := 39) hc (by first | assumption | exact ⟨by decide, rfl, by decide⟩) (by omega) dX7_sameSign_38 rfl ?_
  rw [hW.2.2 ia a ha]
  refine tt_il3 (q := 40) hc dX7_sameSign_39 rfl ?_
  refine tt_iconst (v := nI 1) (q := 41) hc rfl dX7_sameSign_40 rfl ?_
  first | (with_reducible refine chk2 ?_; refine tt_isubN (q := 42) hc (by omega) dX7_sameSign_41 rfl ?_) | refine tt_isub (q := 42) hc dX7_sameSign_41 rfl ?_
  first | (with_reducible refine chk2 ?_; refine tt_iandN (q := 43) hc dX7_sameSign_42 rfl ?_) | (with_reducible refine chkan ?_; refine tt_iandnN (q := 43) hc dX7_sameSign_42 rfl ?_) | (with_reducible refine chkna ?_; refine tt_inandN (q := 43) hc dX7_sameSign_42 rfl ?_) | refine tt_iand (q := 43) hc dX7_sameSign_42 rfl ?_
  refine tt_cS1 (q := 46) (d' := 0) hc (by decide) kmJ6_bitCount_0f7a4 ml_X7_38 (Nat.le_of_ble_eq_true rfl) dX7_sameSign_43 rfl ?_
  refine c_J6_bitCount_0f7a4 ?_
  dsimp only [Option.toList, List.nil_append, List.cons_append]
  refine tt_al0 (q := 47) hc dX7_sameSign_46 rfl ?_
  refine tt_getR (q := 50) hc fl_X7_9 (by first | assumption | exact ⟨by decide, _, rfl, rfl⟩) dX7_sameSign_47 rfl ?_
  refine tt_il2 (q := 51) hc dX7_sameSign_50 rfl ?_
  refine tt_iald (q := 52) hc (by first | assumption | exact ⟨by decide, rfl, by decide⟩) (by omega) dX7_sameSign_51 rfl ?_
  rw [hW.2.2 ib b hb2]
  refine tt_il4 (q := 54) hc dX7_sameSign_52 rfl ?_
  refine tt_iconst (v := nI 1) (q := 55) hc rfl dX7_sameSign_54 rfl ?_
  first | (with_reducible refine chk2 ?_; refine tt_isubN (q := 56) hc (by omega) dX7_sameSign_55 rfl ?_) | refine tt_isub (q := 56) hc dX7_sameSign_55 rfl ?_
  first | (with_reducible refine chk2 ?_; refine tt_iandN (q := 57) hc dX7_sameSign_56 rfl ?_) | (with_reducible refine chkan ?_; refine tt_iandnN (q := 57) hc dX7_sameSign_56 rfl ?_) | (with_reducible refine chkna ?_; refine tt_inandN (q := 57) hc dX7_sameSign_56 rfl ?_) | refine tt_iand (q := 57) hc dX7_sameSign_56 rfl ?_
  refine tt_cS1 (q := 60) (d' := 0) hc (by decide) kmJ6_bitCount_0f7a4 ml_X7_38 (Nat.le_of_ble_eq_true rfl) dX7_sameSign_57 rfl ?_
  refine c_J6_bitCount_0f7a4 ?_
  dsimp only [Option.toList, List.nil_append, List.cons_append]
  first | (with_reducible refine chk2 ?_; refine tt_iaddN (q := 61) hc dX7_sameSign_60 rfl ?_) | refine tt_iadd (q := 61) hc dX7_sameSign_60 rfl ?_
  refine tt_is5 (q := 63) hc dX7_sameSign_61 rfl (by decide) ?_
  refine tt_il5 (q := 65) hc dX7_sameSign_63 rfl ?_
  refine tt_iconst (v := nI 2) (q := 66) hc rfl dX7_sameSign_65 rfl ?_
  first | (with_reducible refine chk2 ?_; refine tt_iremN (q := 67) hc (by omega) (by omega) (by omega) dX7_sameSign_66 rfl ?_) | refine tt_irem (q := 67) hc (by decide) dX7_sameSign_66 rfl ?_
  refine tt_iconst (v := nI 1) (q := 68) hc rfl dX7_sameSign_67 rfl ?_
  first | (with_reducible refine chk2 ?_; refine tt_icneN (t := 75) (q := 71) hc (by omega) (by omega) dX7_sameSign_68 rfl rfl (fun c_68 => ?_) (fun c_68 => ?_)) | refine tt_icne (t := 75) (q := 71) hc dX7_sameSign_68 rfl rfl (fun c_68 => ?_) (fun c_68 => ?_)
  · refine tt_iconst (v := nI 0) (q := 76) hc rfl dX7_sameSign_75 rfl ?_
    refine tt_retz hX rfl (by first | decide | exact bI_01 _) dX7_sameSign_76 ?_
    first | (refine qb1 hQ ?_; rw [sam, decide_eq_true c_68]) | (refine qb0 hQ ?_; rw [sam, decide_eq_false c_68])
  · refine tt_iconst (v := nI 1) (q := 72) hc rfl dX7_sameSign_71 rfl ?_
    refine tt_goto (t := 76) hc dX7_sameSign_72 rfl ?_
    refine tt_retz hX rfl (by first | decide | exact bI_01 _) dX7_sameSign_76 ?_
    first | (refine qb1 hQ ?_; rw [sam, decide_eq_true c_68]) | (refine qb0 hQ ?_; rw [sam, decide_eq_false c_68])
