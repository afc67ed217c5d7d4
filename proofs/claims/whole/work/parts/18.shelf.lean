/-! SHELF, ROWS -/
def shelfL : List Nat := 4 :: List.range' 64 8
theorem shelfL_in {i : Nat} (h1 : 64 ≤ i) (h2 : i < 72) : i ∈ shelfL := List.mem_cons_of_mem _ (List.mem_range'_1.mpr ⟨h1, by omega⟩)
/-- KEPT heaps: K, bodies -/
def SR (μ : Mem) (ks : List (Nat × (Nat → Bool))) : Prop := ks.length ≤ 4 ∧ μ 4 1 = nI ks.length ∧ ∀ i q, ks[i]? = some q → RC μ (12 + i) q.1 q.2
theorem SR.frm {μ μ' : Mem} {l : List Nat} {ks : List (Nat × (Nat → Bool))} (h : SR μ ks) (hf : frm l μ μ') (hl : ∀ i ∈ l, i ∉ shelfL) : SR μ' ks := by
  have e2 : μ' 4 = μ 4 := hf 4 (fun z => hl 4 z List.mem_cons_self)
  refine ⟨h.1, by rw [e2]; exact h.2.1, fun i q hq => ?_⟩
  have hi := (List.getElem?_eq_some_iff.mp hq).1
  have := h.1
  exact (h.2.2 i q hq).frm hf (fun z => hl _ z (shelfL_in (by omega) (by omega))) (fun z => hl _ z (shelfL_in (by omega) (by omega)))
set_option maxHeartbeats 4000000 in
theorem c_X5_add {l : Launch} {K : Nat} {B : Nat → Bool} {ks : List (Nat × (Nat → Bool))} {μ : Mem} {Q : Option Value → Mem → Prop} (hR : RC μ 0 K B) (hS : SR μ ks) (hQ1 : 4 ≤ ks.length → Q (some (.int (bI false))) μ) (hQ : ks.length < 4 → ∀ μ', frm shelfL μ μ' → SR μ' (ks ++ [(K, B)]) → Q (some (.int (bI true))) μ') : CC l 2 mX5_add [.ref 4, .ref 40] μ Q := by
  refine CC.of (M := mX5_add) (by decide +kernel) rfl (fun v h => by simp at h; rcases h with rfl | rfl <;> rfl) (Nat.le_of_ble_eq_true rfl) (fun X hX => ?_)
  have hc := hX.cx
  obtain ⟨h1, h2, h5⟩ := hS
  have hq5 : HQ 5 3 4 (fun j => 64 + 2 * j) := ⟨by decide, rfl, by decide⟩
  have e64 : 64 + 2 * ks.length = 40 + 2 * (12 + ks.length) := by omega
  refine tt_al0 (q := 1) hc dX5_add_0 rfl ?_
  refine tt_getI (q := 4) hc fl_X5_18 (by first | assumption | exact ⟨by decide, _, rfl, _, rfl⟩) dX5_add_1 rfl ?_
  rw [h2]
  refine tt_iconst (v := nI 4) (q := 5) hc rfl dX5_add_4 rfl ?_
  first | (with_reducible refine chk2 ?_; refine tt_icltN (t := 10) (q := 8) hc (by omega) (by omega) dX5_add_5 rfl rfl (fun c_5 => ?_) (fun c_5 => ?_)) | refine tt_iclt (t := 10) (q := 8) hc dX5_add_5 rfl rfl (fun c_5 => ?_) (fun c_5 => ?_)
  · have ho2 : HO (40 + 2 * (12 + ks.length)) 0 := ⟨by omega, _, sh_ho (by omega)⟩
    refine tt_al0 (q := 11) hc dX5_add_10 rfl ?_
    refine tt_getR (q := 14) hc fl_X5_11 (by first | assumption | exact ⟨by decide, _, rfl, rfl⟩) dX5_add_11 rfl ?_
    refine tt_al0 (q := 15) hc dX5_add_14 rfl ?_
    refine tt_getI (q := 18) hc fl_X5_18 (by first | assumption | exact ⟨by decide, _, rfl, _, rfl⟩) dX5_add_15 rfl ?_
    rw [h2]
    refine tt_aald (q := 19) hc (r := _) (by first | assumption | exact ⟨by decide, rfl, by decide⟩) (by decide) (by omega) dX5_add_18 rfl ?_
    dsimp only; rw [e64]
    refine tt_al1 (q := 20) hc dX5_add_19 rfl ?_
    refine tt_cV1 (q := 23) (d' := 1) (ci := 0) hc (by decide) kmX0_copyOf ml_X5_22 (by first | assumption | exact ⟨by decide, _, rfl⟩) rfl (Nat.le_of_ble_eq_true rfl) dX5_add_20 rfl ?_
    refine c_X0_copyOf (j := 12 + ks.length) (j2 := 0) (by omega) (by decide) (by omega) hR (fun ν hf hE => ?_)
    have k4 : ν 4 = μ 4 := hf 4 (by simp; omega)
    dsimp only [Option.toList, List.nil_append, List.cons_append]
    refine tt_al0 (q := 24) hc dX5_add_23 rfl ?_
    refine tt_dup (q := 25) hc rfl dX5_add_24 rfl ?_
    refine tt_getI (q := 28) hc fl_X5_18 (by first | assumption | exact ⟨by decide, _, rfl, _, rfl⟩) dX5_add_25 rfl ?_
    rw [k4, h2]
    refine tt_iconst (v := nI 1) (q := 29) hc rfl dX5_add_28 rfl ?_
    first | (with_reducible refine chk2 ?_; refine tt_iaddN (q := 30) hc dX5_add_29 rfl ?_) | refine tt_iadd (q := 30) hc dX5_add_29 rfl ?_
    refine tt_putI (q := 33) hc fp_X5_18 (by first | assumption | exact ⟨by decide, _, rfl, _, rfl⟩) dX5_add_30 rfl ?_
    refine tt_iconst (v := nI 1) (q := 34) hc rfl dX5_add_33 rfl ?_
    refine tt_retz hX rfl (by first | decide | exact bI_01 _) dX5_add_34 ?_
    refine hQ c_5 _ (fun i hi => ?_) ⟨by simp; omega, ?_, fun i q hq => ?_⟩
    · rw [mset_ne (fun e => hi (by rw [e]; exact List.mem_cons_self))]
      refine hf i (fun z => hi (shelfL_in ?_ ?_))
      · simp at z; omega
      · simp at z; omega
    · rw [mset_eq, pk_us, List.length_append]
      rfl
    · have hi := (List.getElem?_eq_some_iff.mp hq).1
      rw [List.length_append, List.length_cons, List.length_nil] at hi
      refine RC.frm ?_ frm.set (by simp; omega) (by simp; omega)
      by_cases e : i < ks.length
      · rw [List.getElem?_append_left e] at hq
        exact (h5 i q hq).frm hf (by simp; omega) (by simp; omega)
      · have e2 : i = ks.length := by omega
        subst e2
        rw [List.getElem?_append_right (Nat.le_refl _), Nat.sub_self] at hq
        simp only [List.getElem?_cons_zero, Option.some.injEq] at hq
        rw [← hq]
        exact hE
  · refine tt_iconst (v := nI 0) (q := 9) hc rfl dX5_add_8 rfl ?_
    refine tt_retz hX rfl (by first | decide | exact bI_01 _) dX5_add_9 ?_
    exact hQ1 c_5
/-- heap number i of the kept, if there is one -/
def kpt (ks : List (Nat × (Nat → Bool))) (v : Int32) : Option Nat := if 0 ≤ v ∧ v < nI ks.length then some v.toNatClampNeg else none
def kptV : Option Nat → Value
  | some i => .ref (40 + 2 * (12 + i))
  | none => .null
theorem kpt_some {ks : List (Nat × (Nat → Bool))} {v : Int32} {i : Nat} (h4 : ks.length ≤ 4) (h : kpt ks v = some i) : i < ks.length ∧ v = nI i := by
  unfold kpt at h
  split at h
  · rename_i q
    obtain ⟨j, hj, rfl⟩ := nI_of (fun z => Int32.not_lt.mpr q.1 z)
    rw [nI_clamp hj] at h
    cases h
    exact ⟨(nI_ltI hj (by omega)).mp q.2, rfl⟩
  · cases h
set_option maxHeartbeats 4000000 in
theorem c_X5_at {l : Launch} {ks : List (Nat × (Nat → Bool))} {v : Int32} {μ : Mem} {Q : Option Value → Mem → Prop} (hS : SR μ ks) (hQ : Q (some (kptV (kpt ks v))) μ) : CC l 0 mX5_at [.ref 4, .int v] μ Q := by
  refine CC.of (M := mX5_at) (by decide +kernel) rfl (fun v h => by simp at h; rcases h with rfl | rfl <;> rfl) (Nat.le_of_ble_eq_true rfl) (fun X hX => ?_)
  have hc := hX.cx
  obtain ⟨h1, h2, h5⟩ := hS
  have hq5 : HQ 5 3 4 (fun j => 64 + 2 * j) := ⟨by decide, rfl, by decide⟩
  rw [kpt] at hQ
  refine tt_il1 (q := 1) hc dX5_at_0 rfl ?_
  refine tt_iflt (t := 21) (q := 4) hc dX5_at_1 rfl rfl (fun c_1 => ?_) (fun c_1 => ?_)
  · refine tt_null (q := 22) hc dX5_at_21 rfl ?_
    refine tt_reta hX rfl (by first | exact Or.inl rfl | exact Or.inr ⟨_, rfl⟩) dX5_at_22 ?_
    first
    | exact hQ
    | (rw [if_neg (fun z => Int32.not_lt.mpr z.1 c_1)] at hQ; exact hQ)
    | (rw [if_neg (fun z => (Int32.not_le.mpr z.2) c_9)] at hQ; exact hQ)
  · refine tt_il1 (q := 5) hc dX5_at_4 rfl ?_
    refine tt_al0 (q := 6) hc dX5_at_5 rfl ?_
    refine tt_getI (q := 9) hc fl_X5_18 (by first | assumption | exact ⟨by decide, _, rfl, _, rfl⟩) dX5_at_6 rfl ?_
    rw [h2]
    first | (with_reducible refine chk2 ?_; refine tt_icgeN (t := 21) (q := 12) hc (by omega) (by omega) dX5_at_9 rfl rfl (fun c_9 => ?_) (fun c_9 => ?_)) | refine tt_icge (t := 21) (q := 12) hc dX5_at_9 rfl rfl (fun c_9 => ?_) (fun c_9 => ?_)
    · refine tt_null (q := 22) hc dX5_at_21 rfl ?_
      refine tt_reta hX rfl (by first | exact Or.inl rfl | exact Or.inr ⟨_, rfl⟩) dX5_at_22 ?_
      first
      | exact hQ
      | (rw [if_neg (fun z => Int32.not_lt.mpr z.1 c_1)] at hQ; exact hQ)
      | (rw [if_neg (fun z => (Int32.not_le.mpr z.2) c_9)] at hQ; exact hQ)
    · refine tt_al0 (q := 13) hc dX5_at_12 rfl ?_
      refine tt_getR (q := 16) hc fl_X5_11 (by first | assumption | exact ⟨by decide, _, rfl, rfl⟩) dX5_at_13 rfl ?_
      refine tt_il1 (q := 17) hc dX5_at_16 rfl ?_
      rw [if_pos ⟨Int32.not_lt.mp c_1, Int32.not_le.mp c_9⟩] at hQ
      obtain ⟨i, hi, rfl⟩ := nI_of c_1
      have hl : i < ks.length := (nI_ltI hi (by omega)).mp (Int32.not_le.mp c_9)
      rw [nI_clamp hi] at hQ
      refine tt_aald (q := 18) hc (r := _) (by first | assumption | exact ⟨by decide, rfl, by decide⟩) (by decide) (by omega) dX5_at_17 rfl ?_
      dsimp only; rw [show 64 + 2 * i = 40 + 2 * (12 + i) by omega]
      refine tt_goto (t := 22) hc dX5_at_18 rfl ?_
      refine tt_reta hX rfl (by first | exact Or.inl rfl | exact Or.inr ⟨_, rfl⟩) dX5_at_22 ?_
      first
      | exact hQ
      | (rw [if_neg (fun z => Int32.not_lt.mpr z.1 c_1)] at hQ; exact hQ)
      | (rw [if_neg (fun z => (Int32.not_le.mpr z.2) c_9)] at hQ; exact hQ)
/-- LISTS: what a list holds -/
def LR (μ : Mem) (ls : Nat → Option (List Int32)) : Prop := ∀ t, t < 4 → match ls t with
  | none => μ 17 t = -11
  | some xs => xs.length ≤ 40 ∧ μ 17 t = nI xs.length ∧ ∀ i x, xs[i]? = some x → μ 16 (t * 40 + i) = x
theorem LR.frm {μ μ' : Mem} {l : List Nat} {ls : Nat → Option (List Int32)} (h : LR μ ls) (hf : frm l μ μ') (h1 : 16 ∉ l) (h2 : 17 ∉ l) : LR μ' ls := by
  intro t ht
  have := h t ht
  rw [hf _ h1, hf _ h2]
  exact this
theorem LR.no {μ : Mem} {ls : Nat → Option (List Int32)} (h : LR μ ls) {t : Nat} (ht : t < 4) (hn : ls t = none) : μ 17 t = -11 := by
  have := h t ht
  rw [hn] at this
  exact this
theorem LR.so {μ : Mem} {ls : Nat → Option (List Int32)} (h : LR μ ls) {t : Nat} (ht : t < 4) {xs : List Int32} (hn : ls t = some xs) : xs.length ≤ 40 ∧ μ 17 t = nI xs.length ∧ ∀ i x, xs[i]? = some x → μ 16 (t * 40 + i) = x := by
  have := h t ht
  rw [hn] at this
  exact this
theorem inB_0f {v : Int32} {b : Nat} (h : v < 0) : inB v (nI 0) (nI b) = false := inB_lo h
theorem inB_bf {v : Int32} {b : Nat} (hb : b < 2 ^ 30) (h : nI (b + 1) ≤ v) : inB v (nI 0) (nI b) = false := inB_hi (Int32.lt_of_lt_of_le (nI_lt (Nat.lt_succ_self b) (by omega)) h)
theorem inB_bt {v : Int32} {b : Nat} (hb : b < 2 ^ 30) (h : ¬ v < 0) (h2 : ¬ nI (b + 1) ≤ v) : inB v (nI 0) (nI b) = true := by
  obtain ⟨n, hn, rfl⟩ := nI_of h
  have : n < b + 1 := (nI_ltI hn (by omega)).mp (Int32.not_le.mp h2)
  exact inB_in (nI_pos hn) (nI_nlt (by omega) (by omega))
theorem c_X3_isList {l : Launch} {v : Int32} {μ : Mem} {Q : Option Value → Mem → Prop} (hQ : Q (some (.int (bI (inB v (nI 0) (nI 3))))) μ) : CC l 0 mX3_isList [.ref 15, .int v] μ Q := by
  refine CC.of (M := mX3_isList) (by decide +kernel) rfl (fun v h => by simp at h; rcases h with rfl | rfl <;> rfl) (Nat.le_of_ble_eq_true rfl) (fun X hX => ?_)
  have hc := hX.cx
  refine tt_il1 (q := 1) hc dX3_isList_0 rfl ?_
  refine tt_iflt (t := 13) (q := 4) hc dX3_isList_1 rfl rfl (fun c_1 => ?_) (fun c_1 => ?_)
  · refine tt_iconst (v := nI 0) (q := 14) hc rfl dX3_isList_13 rfl ?_
    refine tt_retz hX rfl (by first | decide | exact bI_01 _) dX3_isList_14 ?_
    first | exact qb1 hQ (inB_bt (b := 3) (by decide) c_1 c_6) | exact qb0 hQ (inB_0f c_1) | exact qb0 hQ (inB_bf (b := 3) (by decide) c_6)
  · refine tt_il1 (q := 5) hc dX3_isList_4 rfl ?_
    refine tt_iconst (v := nI 4) (q := 6) hc rfl dX3_isList_5 rfl ?_
    first | (with_reducible refine chk2 ?_; refine tt_icgeN (t := 13) (q := 9) hc (by omega) (by omega) dX3_isList_6 rfl rfl (fun c_6 => ?_) (fun c_6 => ?_)) | refine tt_icge (t := 13) (q := 9) hc dX3_isList_6 rfl rfl (fun c_6 => ?_) (fun c_6 => ?_)
    · refine tt_iconst (v := nI 0) (q := 14) hc rfl dX3_isList_13 rfl ?_
      refine tt_retz hX rfl (by first | decide | exact bI_01 _) dX3_isList_14 ?_
      first | exact qb1 hQ (inB_bt (b := 3) (by decide) c_1 c_6) | exact qb0 hQ (inB_0f c_1) | exact qb0 hQ (inB_bf (b := 3) (by decide) c_6)
    · refine tt_iconst (v := nI 1) (q := 10) hc rfl dX3_isList_9 rfl ?_
      refine tt_goto (t := 14) hc dX3_isList_10 rfl ?_
      refine tt_retz hX rfl (by first | decide | exact bI_01 _) dX3_isList_14 ?_
      first | exact qb1 hQ (inB_bt (b := 3) (by decide) c_1 c_6) | exact qb0 hQ (inB_0f c_1) | exact qb0 hQ (inB_bf (b := 3) (by decide) c_6)
/-- 0, or why a list can't be used -/
def lst (ls : Nat → Option (List Int32)) (v : Int32) : Int32 := if inB v (nI 0) (nI 3) = true then (match ls v.toNatClampNeg with | none => -11 | some _ => 0) else -1
set_option maxHeartbeats 4000000 in
theorem c_X3_state {l : Launch} {v : Int32} {ls : Nat → Option (List Int32)} {μ : Mem} {Q : Option Value → Mem → Prop} (hL : LR μ ls) (hQ : Q (some (.int (lst ls v))) μ) : CC l 1 mX3_state [.ref 15, .int v] μ Q := by
  refine CC.of (M := mX3_state) (by decide +kernel) rfl (fun v h => by simp at h; rcases h with rfl | rfl <;> rfl) (Nat.le_of_ble_eq_true rfl) (fun X hX => ?_)
  have hc := hX.cx
  rw [lst] at hQ
  refine tt_al0 (q := 1) hc dX3_state_0 rfl ?_
  refine tt_il1 (q := 2) hc dX3_state_1 rfl ?_
  refine tt_cV1 (q := 5) (d' := 0) (ci := 3) hc (by decide) kmX3_isList ml_X3_18 (by first | assumption | exact ⟨by decide, _, rfl⟩) rfl (Nat.le_of_ble_eq_true rfl) dX3_state_2 rfl ?_
  refine c_X3_isList ?_
  dsimp only [Option.toList, List.nil_append, List.cons_append]
  first | (with_reducible refine chkb ?_; refine tt_ifneB (t := 10) (q := 8) hc dX3_state_5 rfl rfl (fun c_5 => ?_) (fun c_5 => ?_)) | (with_reducible refine chk1 ?_; refine tt_ifneN (t := 10) (q := 8) hc (by omega) dX3_state_5 rfl rfl (fun c_5 => ?_) (fun c_5 => ?_)) | refine tt_ifne (t := 10) (q := 8) hc dX3_state_5 rfl rfl (fun c_5 => ?_) (fun c_5 => ?_)
  · refine tt_al0 (q := 11) hc dX3_state_10 rfl ?_
    refine tt_getR (q := 14) hc fl_X3_15 (by first | assumption | exact ⟨by decide, _, rfl, rfl⟩) dX3_state_11 rfl ?_
    refine tt_il1 (q := 15) hc dX3_state_14 rfl ?_
    obtain ⟨t, -, ht, rfl⟩ := inB_t (by decide) (by decide) c_5
    rw [if_pos c_5, nI_clamp (by omega)] at hQ
    refine tt_iald (q := 16) hc (by first | assumption | exact ⟨by decide, rfl, by decide⟩) (by omega) dX3_state_15 rfl ?_
    refine tt_iconst (v := nI 0) (q := 17) hc rfl dX3_state_16 rfl ?_
    refine tt_min (q := 20) hc (by decide) mi_X3_22 (Nat.le_of_ble_eq_true rfl) dX3_state_17 rfl ?_
    refine tt_reti hX rfl dX3_state_20 ?_
    cases hls : ls t with
    | none =>
      rw [hls] at hQ
      rw [hL.no (by omega) hls]
      exact hQ
    | some xs =>
      rw [hls] at hQ
      have := hL.so (by omega) hls
      rw [this.2.1, min8 (by decide) (by omega), Nat.min_zero]
      exact hQ
  · refine tt_iconst (v := -1) (q := 9) hc rfl dX3_state_8 rfl ?_
    refine tt_reti hX rfl dX3_state_9 ?_
    rw [if_neg (by rw [c_5]; exact Bool.false_ne_true)] at hQ
    exact hQ
theorem c_X3_sizeOf {l : Launch} {t : Nat} {xs : List Int32} {ls : Nat → Option (List Int32)} {μ : Mem} {Q : Option Value → Mem → Prop} (hL : LR μ ls) (ht : t < 4) (hx : ls t = some xs) (hQ : Q (some (.int (nI xs.length))) μ) : CC l 0 mX3_sizeOf [.ref 15, .int (nI t)] μ Q := by
  refine CC.of (M := mX3_sizeOf) (by decide +kernel) rfl (fun v h => by simp at h; rcases h with rfl | rfl <;> rfl) (Nat.le_of_ble_eq_true rfl) (fun X hX => ?_)
  have hc := hX.cx
  refine tt_al0 (q := 1) hc dX3_sizeOf_0 rfl ?_
  refine tt_getR (q := 4) hc fl_X3_15 (by first | assumption | exact ⟨by decide, _, rfl, rfl⟩) dX3_sizeOf_1 rfl ?_
  refine tt_il1 (q := 5) hc dX3_sizeOf_4 rfl ?_
  refine tt_iald (q := 6) hc (by first | assumption | exact ⟨by decide, rfl, by decide⟩) (by omega) dX3_sizeOf_5 rfl ?_
  refine tt_reti hX rfl dX3_sizeOf_6 ?_
  exact qi hQ (hL.so ht hx).2.1
theorem c_X3_at {l : Launch} {t i : Nat} {x : Int32} {xs : List Int32} {ls : Nat → Option (List Int32)} {μ : Mem} {Q : Option Value → Mem → Prop} (hL : LR μ ls) (ht : t < 4) (hx : ls t = some xs) (hi : xs[i]? = some x) (hQ : Q (some (.int x)) μ) : CC l 0 mX3_at [.ref 15, .int (nI t), .int (nI i)] μ Q := by
  refine CC.of (M := mX3_at) (by decide +kernel) rfl (fun v h => by simp at h; rcases h with rfl | rfl | rfl <;> rfl) (Nat.le_of_ble_eq_true rfl) (fun X hX => ?_)
  have hc := hX.cx
  have h := hL.so ht hx
  have h2 := (List.getElem?_eq_some_iff.mp hi).1
  refine tt_al0 (q := 1) hc dX3_at_0 rfl ?_
  refine tt_getR (q := 4) hc fl_X3_9 (by first | assumption | exact ⟨by decide, _, rfl, rfl⟩) dX3_at_1 rfl ?_
  refine tt_il1 (q := 5) hc dX3_at_4 rfl ?_
  refine tt_bipush (v := nI 40) (q := 7) hc (by decide) dX3_at_5 rfl ?_
  first | (with_reducible refine chk2 ?_; refine tt_imulN (q := 8) hc dX3_at_7 rfl ?_) | refine tt_imul (q := 8) hc dX3_at_7 rfl ?_
  refine tt_il2 (q := 9) hc dX3_at_8 rfl ?_
  first | (with_reducible refine chk2 ?_; refine tt_iaddN (q := 10) hc dX3_at_9 rfl ?_) | refine tt_iadd (q := 10) hc dX3_at_9 rfl ?_
  refine tt_iald (q := 11) hc (by first | assumption | exact ⟨by decide, rfl, by decide⟩) (by omega) dX3_at_10 rfl ?_
  refine tt_reti hX rfl dX3_at_11 ?_
  exact qi hQ (h.2.2 i x hi)
theorem c_X3_set {l : Launch} {t i : Nat} {x : Int32} {μ : Mem} {Q : Option Value → Mem → Prop} (ht : t < 4) (hi : i < 40) (hQ : Q none (mset μ 16 (upd (μ 16) (t * 40 + i) x))) : CC l 0 mX3_set [.ref 15, .int (nI t), .int (nI i), .int x] μ Q := by
  refine CC.of (M := mX3_set) (by decide +kernel) rfl (fun v h => by simp at h; rcases h with rfl | rfl | rfl | rfl <;> rfl) (Nat.le_of_ble_eq_true rfl) (fun X hX => ?_)
  have hc := hX.cx
  refine tt_al0 (q := 1) hc dX3_set_0 rfl ?_
  refine tt_getR (q := 4) hc fl_X3_9 (by first | assumption | exact ⟨by decide, _, rfl, rfl⟩) dX3_set_1 rfl ?_
  refine tt_il1 (q := 5) hc dX3_set_4 rfl ?_
  refine tt_bipush (v := nI 40) (q := 7) hc (by decide) dX3_set_5 rfl ?_
  first | (with_reducible refine chk2 ?_; refine tt_imulN (q := 8) hc dX3_set_7 rfl ?_) | refine tt_imul (q := 8) hc dX3_set_7 rfl ?_
  refine tt_il2 (q := 9) hc dX3_set_8 rfl ?_
  first | (with_reducible refine chk2 ?_; refine tt_iaddN (q := 10) hc dX3_set_9 rfl ?_) | refine tt_iadd (q := 10) hc dX3_set_9 rfl ?_
  refine tt_il3 (q := 11) hc dX3_set_10 rfl ?_
  refine tt_iast (q := 12) hc (by first | assumption | exact ⟨by decide, rfl, by decide⟩) (by omega) dX3_set_11 rfl ?_
  refine tt_retv hX rfl dX3_set_12 ?_
  exact hQ
