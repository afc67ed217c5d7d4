/-! ROWS: start, move; NAMES -/
def lset (ls : Nat → Option (List Int32)) (t : Nat) (x : Option (List Int32)) : Nat → Option (List Int32) := fun u => if u = t then x else ls u
set_option maxHeartbeats 4000000 in
theorem c_X3_start {l : Launch} {t n : Nat} {ls : Nat → Option (List Int32)} {μ : Mem} {Q : Option Value → Mem → Prop} (hL : LR μ ls) (ht : t < 4) (hn : n ≤ 40) (hQ : ∀ μ', frm [16, 17] μ μ' → LR μ' (lset ls t (some (List.replicate n 0))) → Q none μ') : CC l 1 mX3_start [.ref 15, .int (nI t), .int (nI n)] μ Q := by
  refine CC.of (M := mX3_start) (by decide +kernel) rfl (fun v h => by simp at h; rcases h with rfl | rfl | rfl <;> rfl) (Nat.le_of_ble_eq_true rfl) (fun X hX => ?_)
  have hc := hX.cx
  have L : ∀ (m i : Nat) (ν : Mem), i + m = n → (∀ ν', frm [16] ν ν' → (∀ k, i ≤ k → k < n → ν' 16 (t * 40 + k) = nI 0) → (∀ k, (k < t * 40 + i ∨ t * 40 + n ≤ k) → ν' 16 k = ν 16 k) → Q none ν') → TT X 9 [.ref 15, .int (nI t), .int (nI n), .int (nI i)] [] ν := by
    intro m
    induction m with
    | zero =>
      intro i ν hi h
      refine tt_il3 (q := 10) hc dX3_start_9 rfl ?_
      refine tt_il2 (q := 11) hc dX3_start_10 rfl ?_
      first | (with_reducible refine chk2 ?_; refine tt_icgeN (t := 27) (q := 14) hc (by omega) (by omega) dX3_start_11 rfl rfl (fun c_11 => ?_) (fun c_11 => ?_)) | refine tt_icge (t := 27) (q := 14) hc dX3_start_11 rfl rfl (fun c_11 => ?_) (fun c_11 => ?_)
      · refine tt_retv hX rfl dX3_start_27 ?_
        exact h ν frm.rf (fun k h1 h2 => by omega) (fun _ _ => rfl)
      · omega
    | succ m ih =>
      intro i ν hi h
      refine tt_il3 (q := 10) hc dX3_start_9 rfl ?_
      refine tt_il2 (q := 11) hc dX3_start_10 rfl ?_
      first | (with_reducible refine chk2 ?_; refine tt_icgeN (t := 27) (q := 14) hc (by omega) (by omega) dX3_start_11 rfl rfl (fun c_11 => ?_) (fun c_11 => ?_)) | refine tt_icge (t := 27) (q := 14) hc dX3_start_11 rfl rfl (fun c_11 => ?_) (fun c_11 => ?_)
      · omega
      · refine tt_al0 (q := 15) hc dX3_start_14 rfl ?_
        refine tt_il1 (q := 16) hc dX3_start_15 rfl ?_
        refine tt_il3 (q := 17) hc dX3_start_16 rfl ?_
        refine tt_iconst (v := nI 0) (q := 18) hc rfl dX3_start_17 rfl ?_
        refine tt_cV3 (q := 21) (d' := 0) (ci := 3) hc (by first | decide | omega) kmX3_set ml_X3_28 (by first | assumption | exact ⟨by decide, _, rfl⟩) rfl (Nat.le_of_ble_eq_true rfl) dX3_start_18 rfl ?_
        refine c_X3_set ht (by omega) ?_
        dsimp only [Option.toList, List.nil_append, List.cons_append]
        first | refine tt_inc3 (q := 24) hc dX3_start_21 rfl (by decide) (incN _) ?_ | refine tt_inc3 (q := 24) hc dX3_start_21 rfl (by decide) rfl ?_
        refine tt_goto (t := 9) hc dX3_start_24 rfl ?_
        refine ih _ _ (by omega) (fun ν' hf h1 h2 => h ν' (frm.set.tr hf) (fun k h3 h4 => ?_) (fun k h3 => ?_))
        · by_cases e : k = i
          · rw [e, h2 _ (by omega), mset_eq, pk_us]
          · exact h1 k (by omega) h4
        · rw [h2 k (by omega), mset_eq, pk_un (by omega)]
  refine tt_al0 (q := 1) hc dX3_start_0 rfl ?_
  refine tt_getR (q := 4) hc fl_X3_15 (by first | assumption | exact ⟨by decide, _, rfl, rfl⟩) dX3_start_1 rfl ?_
  refine tt_il1 (q := 5) hc dX3_start_4 rfl ?_
  refine tt_il2 (q := 6) hc dX3_start_5 rfl ?_
  refine tt_iast (q := 7) hc (by first | assumption | exact ⟨by decide, rfl, by decide⟩) (by omega) dX3_start_6 rfl ?_
  refine tt_iconst (v := nI 0) (q := 8) hc rfl dX3_start_7 rfl ?_
  refine tt_is3 (q := 9) hc dX3_start_8 rfl (by decide) ?_
  refine L n 0 _ (by omega) (fun ν' hf h1 h2 => hQ ν' (((frm.set (i := 17)).mono (by simp)).tr (hf.mono (by simp))) (fun u hu => ?_))
  have e17 : ν' 17 = upd (μ 17) t (nI n) := by rw [hf 17 (by decide), mset_eq]
  by_cases e : u = t
  · subst e
    simp only [lset, if_true]
    refine ⟨by rw [List.length_replicate]; exact hn, by rw [e17, pk_us, List.length_replicate], fun i x hx => ?_⟩
    have hi := (List.getElem?_eq_some_iff.mp hx).1
    rw [List.length_replicate] at hi
    rw [List.getElem?_replicate, if_pos hi] at hx
    rw [h1 i (Nat.zero_le i) hi]
    exact Option.some.inj hx
  · have h0 := hL u hu
    simp only [lset, if_neg e]
    rw [e17, pk_un e]
    cases hls : ls u with
    | none =>
      rw [hls] at h0
      exact h0
    | some xs =>
      rw [hls] at h0
      refine ⟨h0.1, h0.2.1, fun i x hx => ?_⟩
      have hi := (List.getElem?_eq_some_iff.mp hx).1
      have := h0.1
      rw [h2 _ (by omega), mset_ne (by decide)]
      exact h0.2.2 i x hx
/-- n places of xs from i on, into ys from j on -/
def cpyL (xs ys : List Int32) (i j n : Nat) : List Int32 := (List.range ys.length).map (fun k => if j ≤ k ∧ k < j + n then xs.getD (i + (k - j)) 0 else ys.getD k 0)
set_option maxHeartbeats 4000000 in
theorem c_X3_move {l : Launch} {t u i j n : Nat} {xs ys : List Int32} {ls : Nat → Option (List Int32)} {μ : Mem} {Q : Option Value → Mem → Prop} (hL : LR μ ls) (ht : t < 4) (hu : u < 4) (hx : ls t = some xs) (hy : ls u = some ys) (hi : i + n ≤ xs.length) (hj : j + n ≤ ys.length) (hQ : ∀ μ', frm [16] μ μ' → LR μ' (lset ls u (some (cpyL xs ys i j n))) → Q none μ') : CC l 1 mX3_move [.ref 15, .int (nI t), .int (nI i), .int (nI u), .int (nI j), .int (nI n)] μ Q := by
  refine CC.of (M := mX3_move) (by decide +kernel) rfl (fun v h => by simp at h; rcases h with rfl | rfl | rfl | rfl | rfl | rfl <;> rfl) (Nat.le_of_ble_eq_true rfl) (fun X hX => ?_)
  have hc := hX.cx
  have h1 := hL.so ht hx
  have h2 := hL.so hu hy
  have a16 : HA 16 0 160 := ⟨by decide, rfl, by decide⟩
  refine tt_al0 (q := 1) hc dX3_move_0 rfl ?_
  refine tt_getR (q := 4) hc fl_X3_9 (by first | assumption | exact ⟨by decide, _, rfl, rfl⟩) dX3_move_1 rfl ?_
  refine tt_il1 (q := 5) hc dX3_move_4 rfl ?_
  refine tt_bipush (v := nI 40) (q := 7) hc (by decide) dX3_move_5 rfl ?_
  first | (with_reducible refine chk2 ?_; refine tt_imulN (q := 8) hc dX3_move_7 rfl ?_) | refine tt_imul (q := 8) hc dX3_move_7 rfl ?_
  refine tt_il2 (q := 9) hc dX3_move_8 rfl ?_
  first | (with_reducible refine chk2 ?_; refine tt_iaddN (q := 10) hc dX3_move_9 rfl ?_) | refine tt_iadd (q := 10) hc dX3_move_9 rfl ?_
  refine tt_al0 (q := 11) hc dX3_move_10 rfl ?_
  refine tt_getR (q := 14) hc fl_X3_9 (by first | assumption | exact ⟨by decide, _, rfl, rfl⟩) dX3_move_11 rfl ?_
  refine tt_il3 (q := 15) hc dX3_move_14 rfl ?_
  refine tt_bipush (v := nI 40) (q := 17) hc (by decide) dX3_move_15 rfl ?_
  first | (with_reducible refine chk2 ?_; refine tt_imulN (q := 18) hc dX3_move_17 rfl ?_) | refine tt_imul (q := 18) hc dX3_move_17 rfl ?_
  refine tt_il4 (q := 20) hc dX3_move_18 rfl ?_
  first | (with_reducible refine chk2 ?_; refine tt_iaddN (q := 21) hc dX3_move_20 rfl ?_) | refine tt_iadd (q := 21) hc dX3_move_20 rfl ?_
  refine tt_il5 (q := 23) hc dX3_move_21 rfl ?_
  refine tt_acopy (q := 26) hc (by decide) ac_X3_32 (by assumption) (by assumption) rfl rfl (by omega) (by omega) (fun _ _ => rfl) rfl dX3_move_23 rfl ?_
  refine tt_retv hX rfl dX3_move_26 ?_
  refine hQ _ frm.set (fun w hw => ?_)
  have cl : (cpyL xs ys i j n).length = ys.length := by simp [cpyL]
  rw [mset_ne (show 17 ≠ 16 by decide), mset_eq]
  by_cases e : w = u
  · subst e
    simp only [lset, if_true]
    refine ⟨by rw [cl]; exact h2.1, by rw [cl]; exact h2.2.1, fun k x hk => ?_⟩
    have hk2 := (List.getElem?_eq_some_iff.mp hk).1
    rw [cl] at hk2
    simp only [cpyL, List.getElem?_map, List.getElem?_range hk2, Option.map_some, Option.some.injEq] at hk
    by_cases hin : j ≤ k ∧ k < j + n
    · rw [if_pos hin] at hk
      rw [pk_cpy_in (by omega) (by omega), ← hk]
      have := h1.2.2 (i + (k - j)) _ (getD_some (d := 0) (by omega))
      rw [← this]
      congr 1
      omega
    · rw [if_neg hin] at hk
      rw [pk_cpy_out (by omega), ← hk]
      exact h2.2.2 k _ (getD_some (d := 0) hk2)
  · have h0 := hL w hw
    simp only [lset, if_neg e]
    cases hls : ls w with
    | none =>
      rw [hls] at h0
      exact h0
    | some zs =>
      rw [hls] at h0
      refine ⟨h0.1, h0.2.1, fun k x hk => ?_⟩
      have hk2 := (List.getElem?_eq_some_iff.mp hk).1
      have := h0.1
      rw [pk_cpy_out (by omega)]
      exact h0.2.2 k x hk
/-- a set under other names of its first p points -/
def rnm (q : Nat → Nat) : Nat → Nat → Nat
  | 0, _ => 0
  | p + 1, s => if s.testBit p = true then rnm q p s ||| 2 ^ q p else rnm q p s
def allB (P : Nat → Bool) : Nat → Nat → Bool
  | 0, _ => true
  | n + 1, i => P i && allB P n (i + 1)
def agr (B1 B2 : Nat → Bool) (q : Nat → Nat) (p v : Nat) : Bool := allB (fun s => decide (cW B1 (s ||| 2 ^ p) = cW B2 (rnm q p s ||| 2 ^ v))) (2 ^ p) 0
def qset (q : Nat → Nat) (p v : Nat) : Nat → Nat := fun i => if i = p then v else q i
def nmv (rest : (Nat → Nat) → Bool) (B1 B2 : Nat → Bool) (p : Nat) (q : Nat → Nat) : Nat → Nat → Bool
  | 0, _ => false
  | m + 1, v => (decide ((rnm q p (2 ^ p - 1) / 2 ^ v) &&& 1 = 0) && agr B1 B2 q p v && rest (qset q p v)) || nmv rest B1 B2 p q m (v + 1)
def nms (B1 B2 : Nat → Bool) : Nat → Nat → (Nat → Nat) → Bool
  | 0, _, _ => true
  | n + 1, p, q => nmv (nms B1 B2 n (p + 1)) B1 B2 p q 8 0
theorem rnm_lt {q : Nat → Nat} : ∀ p s, (∀ i, i < p → q i < 8) → rnm q p s < 256
  | 0, _, _ => (by decide : 0 < 256)
  | p + 1, s, h => by
    have h1 := rnm_lt p s (fun i hi => h i (by omega))
    rw [rnm]
    split
    · exact or_lt h1 (p2_lt (h p (by omega)))
    · exact h1
theorem rnm_congr {q q' : Nat → Nat} : ∀ p s s', (∀ i, i < p → q i = q' i ∧ s.testBit i = s'.testBit i) → rnm q p s = rnm q' p s'
  | 0, _, _, _ => rfl
  | p + 1, s, s', h => by
    rw [rnm, rnm, rnm_congr p s s' (fun i hi => h i (by omega)), (h p (by omega)).1, (h p (by omega)).2]
theorem orp : ∀ p, p < 8 → ∀ s, s < 2 ^ p → s ||| 2 ^ p = s + 2 ^ p ∧ s + 2 ^ p < 256 := by decide +kernel
set_option maxHeartbeats 8000000 in
theorem c_X1_agrees {l : Launch} {j1 j2 K1 K2 p v : Nat} {B1 B2 : Nat → Bool} {q : Nat → Nat} {μ : Mem} {Q : Option Value → Mem → Prop} (hj1 : j1 < 16) (hj2 : j2 < 16) (hp : p < 8) (hv : v < 8) (hq : ∀ i, i < p → q i < 8) (hR1 : RC μ j1 K1 B1) (hR2 : RC μ j2 K2 B2) (h1 : μ 13 1 = nI (40 + 2 * j1)) (h2 : μ 13 2 = nI (40 + 2 * j2)) (hr : ∀ s, s < 2 ^ p → μ 14 s = nI (rnm q p s)) (hQ : ∀ μ', frm [14] μ μ' → (∀ s, s < 2 ^ p → μ' 14 s = μ 14 s) → (agr B1 B2 q p v = true → ∀ s, s < 2 ^ p → μ' 14 (s + 2 ^ p) = nI (rnm q p s ||| 2 ^ v)) → Q (some (.int (bI (agr B1 B2 q p v)))) μ') : CC l 0 mX1_agrees [.ref 13, .int (nI p), .int (nI (2 ^ v))] μ Q := by
  refine CC.of (M := mX1_agrees) (by decide +kernel) rfl (fun v h => by simp at h; rcases h with rfl | rfl | rfl <;> rfl) (Nat.le_of_ble_eq_true rfl) (fun X hX => ?_)
  have hc := hX.cx
  have d1 : HD 13 1 1 := ⟨by decide, _, rfl, _, rfl⟩
  have d2 : HD 13 1 2 := ⟨by decide, _, rfl, _, rfl⟩
  have w1 : HR (40 + 2 * j1) 0 1 (40 + 2 * j1 + 1) := ⟨by omega, _, sh_ho hj1, rfl⟩
  have w2 : HR (40 + 2 * j2) 0 1 (40 + 2 * j2 + 1) := ⟨by omega, _, sh_ho hj2, rfl⟩
  have A1 : HA (40 + 2 * j1 + 1) 0 256 := ⟨by omega, sh_hw hj1, by decide⟩
  have A2 : HA (40 + 2 * j2 + 1) 0 256 := ⟨by omega, sh_hw hj2, by decide⟩
  have a14 : HA 14 0 256 := ⟨by decide, rfl, by decide⟩
  have hpp : 2 ^ p ≤ 128 := (Nat.pow_le_pow_right (by decide) (show p ≤ 7 by omega) : 2 ^ p ≤ 2 ^ 7)
  have L : ∀ (n s : Nat) (ν : Mem) (w : Value), s + n = 2 ^ p → RC ν j1 K1 B1 → RC ν j2 K2 B2 → ν 13 = μ 13 → (∀ s, s < 2 ^ p → ν 14 s = nI (rnm q p s)) → (∀ μ', frm [14] ν μ' → (∀ s, s < 2 ^ p → μ' 14 s = ν 14 s) → (∀ k, k < s → μ' 14 (k + 2 ^ p) = ν 14 (k + 2 ^ p)) → (allB (fun s => decide (cW B1 (s ||| 2 ^ p) = cW B2 (rnm q p s ||| 2 ^ v))) n s = true → ∀ k, s ≤ k → k < 2 ^ p → μ' 14 (k + 2 ^ p) = nI (rnm q p k ||| 2 ^ v)) → Q (some (.int (bI (allB (fun s => decide (cW B1 (s ||| 2 ^ p) = cW B2 (rnm q p s ||| 2 ^ v))) n s)))) μ') → TT X 7 [.ref 13, .int (nI p), .int (nI (2 ^ v)), .int (nI (2 ^ p)), .int (nI s), w] [] ν := by
    intro n
    induction n with
    | zero =>
      intro s ν w hs hR1 hR2 h13 hr h
      refine tt_il4 (q := 9) hc dX1_agrees_7 rfl ?_
      refine tt_il3 (q := 10) hc dX1_agrees_9 rfl ?_
      first | (with_reducible refine chk2 ?_; refine tt_icgeN (t := 68) (q := 13) hc (by omega) (by omega) dX1_agrees_10 rfl rfl (fun c_10 => ?_) (fun c_10 => ?_)) | refine tt_icge (t := 68) (q := 13) hc dX1_agrees_10 rfl rfl (fun c_10 => ?_) (fun c_10 => ?_)
      · refine tt_iconst (v := nI 1) (q := 69) hc rfl dX1_agrees_68 rfl ?_
        refine tt_retz hX rfl (by first | decide | exact bI_01 _) dX1_agrees_69 ?_
        exact h ν frm.rf (fun _ _ => rfl) (fun _ _ => rfl) (fun _ k h1 h2 => by omega)
      · omega
    | succ n ih =>
      intro s ν w hs hR1 hR2 h13 hr h
      have hsp := orp p hp s (by omega)
      have k1 : rnm q p s ||| 2 ^ v < 256 := or_lt (rnm_lt p s hq) (p2_lt hv)
      have k2 := cW_le B1 (s ||| 2 ^ p)
      have k3 := cW_le B2 (rnm q p s ||| 2 ^ v)
      have e1 : ν 13 1 = nI (40 + 2 * j1) := by rw [h13]; exact h1
      have e2 : ν 13 2 = nI (40 + 2 * j2) := by rw [h13]; exact h2
      rw [allB] at h
      refine tt_il4 (q := 9) hc dX1_agrees_7 rfl ?_
      refine tt_il3 (q := 10) hc dX1_agrees_9 rfl ?_
      first | (with_reducible refine chk2 ?_; refine tt_icgeN (t := 68) (q := 13) hc (by omega) (by omega) dX1_agrees_10 rfl rfl (fun c_10 => ?_) (fun c_10 => ?_)) | refine tt_icge (t := 68) (q := 13) hc dX1_agrees_10 rfl rfl (fun c_10 => ?_) (fun c_10 => ?_)
      · omega
      · refine tt_al0 (q := 14) hc dX1_agrees_13 rfl ?_
        refine tt_getR (q := 17) hc fl_X1_9 (by first | assumption | exact ⟨by decide, _, rfl, rfl⟩) dX1_agrees_14 rfl ?_
        refine tt_il4 (q := 19) hc dX1_agrees_17 rfl ?_
        refine tt_iald (q := 20) hc (by first | assumption | exact ⟨by decide, rfl, by decide⟩) (by omega) dX1_agrees_19 rfl ?_
        rw [hr s (by omega)]
        refine tt_il2 (q := 21) hc dX1_agrees_20 rfl ?_
        first | (with_reducible refine chk2 ?_; refine tt_iorN (q := 22) hc dX1_agrees_21 rfl ?_) | refine tt_ior (q := 22) hc dX1_agrees_21 rfl ?_
        refine tt_is5 (q := 24) hc dX1_agrees_22 rfl (by decide) ?_
        refine tt_al0 (q := 25) hc dX1_agrees_24 rfl ?_
        refine tt_getD (q := 28) hc fl_X1_25 d1 e1 (by omega) dX1_agrees_25 rfl ?_
        refine tt_getR (q := 31) hc fl_X1_40 (by first | assumption | exact ⟨by decide, _, rfl, rfl⟩) dX1_agrees_28 rfl ?_
        refine tt_il4 (q := 33) hc dX1_agrees_31 rfl ?_
        refine tt_il3 (q := 34) hc dX1_agrees_33 rfl ?_
        first | (with_reducible refine chk2 ?_; refine tt_iorN (q := 35) hc dX1_agrees_34 rfl ?_) | refine tt_ior (q := 35) hc dX1_agrees_34 rfl ?_
        refine tt_iald (q := 36) hc (by first | assumption | exact ⟨by decide, rfl, by decide⟩) (by omega) dX1_agrees_35 rfl ?_
        rw [hR1.2.2 _ (by omega)]
        refine tt_al0 (q := 37) hc dX1_agrees_36 rfl ?_
        refine tt_getD (q := 40) hc fl_X1_29 d2 e2 (by omega) dX1_agrees_37 rfl ?_
        refine tt_getR (q := 43) hc fl_X1_40 (by first | assumption | exact ⟨by decide, _, rfl, rfl⟩) dX1_agrees_40 rfl ?_
        refine tt_il5 (q := 45) hc dX1_agrees_43 rfl ?_
        refine tt_iald (q := 46) hc (by first | assumption | exact ⟨by decide, rfl, by decide⟩) (by omega) dX1_agrees_45 rfl ?_
        rw [hR2.2.2 _ k1]
        first | (with_reducible refine chk2 ?_; refine tt_iceqN (t := 51) (q := 49) hc (by omega) (by omega) dX1_agrees_46 rfl rfl (fun c_46 => ?_) (fun c_46 => ?_)) | refine tt_iceq (t := 51) (q := 49) hc dX1_agrees_46 rfl rfl (fun c_46 => ?_) (fun c_46 => ?_)
        · refine tt_al0 (q := 52) hc dX1_agrees_51 rfl ?_
          refine tt_getR (q := 55) hc fl_X1_9 (by first | assumption | exact ⟨by decide, _, rfl, rfl⟩) dX1_agrees_52 rfl ?_
          refine tt_il4 (q := 57) hc dX1_agrees_55 rfl ?_
          refine tt_il3 (q := 58) hc dX1_agrees_57 rfl ?_
          first | (with_reducible refine chk2 ?_; refine tt_iorN (q := 59) hc dX1_agrees_58 rfl ?_) | refine tt_ior (q := 59) hc dX1_agrees_58 rfl ?_
          refine tt_il5 (q := 61) hc dX1_agrees_59 rfl ?_
          refine tt_iast (q := 62) hc (by first | assumption | exact ⟨by decide, rfl, by decide⟩) (by omega) dX1_agrees_61 rfl ?_
          first | refine tt_inc4 (q := 65) hc dX1_agrees_62 rfl (by decide) (incN _) ?_ | refine tt_inc4 (q := 65) hc dX1_agrees_62 rfl (by decide) rfl ?_
          refine tt_goto (t := 7) hc dX1_agrees_65 rfl ?_
          rw [decide_eq_true c_46, hsp.1] at *
          refine ih _ _ _ (by omega) (hR1.frm frm.set (by simp; omega) (by simp; omega)) (hR2.frm frm.set (by simp; omega) (by simp; omega)) (by rw [mset_ne (by decide)]; exact h13) (fun t ht => by rw [mset_eq, pk_un (by omega)]; exact hr t ht) (fun μ' hf g1 g2 g3 => h μ' (frm.set.tr hf) (fun t ht => ?_) (fun k hk => ?_) (fun z k hk1 hk2 => ?_))
          · rw [g1 t ht, mset_eq, pk_un (by omega)]
          · rw [g2 k (by omega), mset_eq, pk_un (by omega)]
          · by_cases e : k = s
            · rw [e, g2 s (by omega), mset_eq, pk_us]
            · exact g3 z k (by omega) hk2
        · refine tt_iconst (v := nI 0) (q := 50) hc rfl dX1_agrees_49 rfl ?_
          refine tt_retz hX rfl (by first | decide | exact bI_01 _) dX1_agrees_50 ?_
          rw [decide_eq_false c_46] at h
          exact h ν frm.rf (fun _ _ => rfl) (fun _ _ => rfl) (fun z => by cases z)
  refine tt_iconst (v := nI 1) (q := 1) hc rfl dX1_agrees_0 rfl ?_
  refine tt_il1 (q := 2) hc dX1_agrees_1 rfl ?_
  first | (with_reducible refine chks ?_; refine tt_ishl1 (q := 3) hc (by omega) dX1_agrees_2 rfl ?_) | (with_reducible refine chk2 ?_; refine tt_ishlN (q := 3) hc (by omega) (by omega) dX1_agrees_2 rfl ?_) | refine tt_ishl (q := 3) hc dX1_agrees_2 rfl ?_
  refine tt_is3 (q := 4) hc dX1_agrees_3 rfl (by decide) ?_
  refine tt_iconst (v := nI 0) (q := 5) hc rfl dX1_agrees_4 rfl ?_
  refine tt_is4 (q := 7) hc dX1_agrees_5 rfl (by decide) ?_
  exact L (2 ^ p) 0 μ _ (by omega) hR1 hR2 rfl hr (fun μ' hf g1 g2 g3 => hQ μ' hf g1 (fun z s hs => g3 z s (Nat.zero_le s) hs))
theorem rnm_hi {q : Nat → Nat} {p v s : Nat} (hp : p < 8) (hs : s < 2 ^ p) : rnm (qset q p v) (p + 1) (s + 2 ^ p) = rnm q p s ||| 2 ^ v := by
  have ho := orp p hp s hs
  have hb : ∀ i, i < p → (s + 2 ^ p).testBit i = s.testBit i := by
    intro i hi
    rw [← ho.1, Nat.testBit_or, Nat.testBit_two_pow_of_ne (by omega), Bool.or_false]
  have ht : (s + 2 ^ p).testBit p = true := by rw [← ho.1, Nat.testBit_or, Nat.testBit_two_pow_self, Bool.or_true]
  rw [rnm, if_pos ht, rnm_congr (q' := q) p (s + 2 ^ p) s (fun i hi => ⟨by simp [qset]; omega, hb i hi⟩)]
  simp [qset]
theorem rnm_lo {q : Nat → Nat} {p v s : Nat} (hs : s < 2 ^ p) : rnm (qset q p v) (p + 1) s = rnm q p s := by
  have hb : ¬ s.testBit p = true := by rw [Nat.testBit_lt_two_pow hs]; exact Bool.false_ne_true
  rw [rnm, if_neg hb]
  exact rnm_congr p s s (fun i hi => ⟨by simp [qset]; omega, rfl⟩)
set_option maxHeartbeats 8000000 in
theorem c_X1_name {l : Launch} {j1 j2 K1 K2 : Nat} {B1 B2 : Nat → Bool} (hj1 : j1 < 16) (hj2 : j2 < 16) : ∀ (n p : Nat) (q : Nat → Nat) (μ : Mem) (Q : Option Value → Mem → Prop), p + n = 8 → (∀ i, i < p → q i < 8) → RC μ j1 K1 B1 → RC μ j2 K2 B2 → μ 13 1 = nI (40 + 2 * j1) → μ 13 2 = nI (40 + 2 * j2) → (∀ s, s < 2 ^ p → μ 14 s = nI (rnm q p s)) → (∀ μ', frm [14] μ μ' → (∀ s, s < 2 ^ p → μ' 14 s = μ 14 s) → Q (some (.int (bI (nms B1 B2 n p q)))) μ') → CC l (n + 1) mX1_name [.ref 13, .int (nI p)] μ Q := by
  intro n
  induction n with
  | zero =>
    intro p q μ Q hp hq hR1 hR2 h1 h2 hr hQ
    refine CC.of (M := mX1_name) (by decide +kernel) rfl (fun v h => by simp at h; rcases h with rfl | rfl <;> rfl) (Nat.le_of_ble_eq_true rfl) (fun X hX => ?_)
    have hc := hX.cx
    refine tt_il1 (q := 1) hc dX1_name_0 rfl ?_
    refine tt_bipush (v := nI 8) (q := 3) hc (by decide) dX1_name_1 rfl ?_
    first | (with_reducible refine chk2 ?_; refine tt_icltN (t := 8) (q := 6) hc (by omega) (by omega) dX1_name_3 rfl rfl (fun c_3 => ?_) (fun c_3 => ?_)) | refine tt_iclt (t := 8) (q := 6) hc dX1_name_3 rfl rfl (fun c_3 => ?_) (fun c_3 => ?_)
    · omega
    · refine tt_iconst (v := nI 1) (q := 7) hc rfl dX1_name_6 rfl ?_
      refine tt_retz hX rfl (by first | decide | exact bI_01 _) dX1_name_7 ?_
      exact hQ μ frm.rf (fun _ _ => rfl)
  | succ n ihn =>
    intro p q μ Q hp hq hR1 hR2 h1 h2 hr hQ
    refine CC.of (M := mX1_name) (by decide +kernel) rfl (fun v h => by simp at h; rcases h with rfl | rfl <;> rfl) (Nat.le_of_ble_eq_true rfl) (fun X hX => ?_)
    have hc := hX.cx
    have a14 : HA 14 0 256 := ⟨by decide, rfl, by decide⟩
    have hpp : 2 ^ p ≤ 128 := (Nat.pow_le_pow_right (by decide) (show p ≤ 7 by omega) : 2 ^ p ≤ 2 ^ 7)
    have hp1 : 1 ≤ 2 ^ p := Nat.two_pow_pos p
    have k0 := rnm_lt p (2 ^ p - 1) hq
    have ho : HO 13 1 := ⟨by decide, _, rfl⟩
    rw [nms] at hQ
    have L : ∀ (m v : Nat) (ν : Mem), v + m = 8 → RC ν j1 K1 B1 → RC ν j2 K2 B2 → ν 13 = μ 13 → (∀ s, s < 2 ^ p → ν 14 s = nI (rnm q p s)) → (∀ μ', frm [14] ν μ' → (∀ s, s < 2 ^ p → μ' 14 s = ν 14 s) → Q (some (.int (bI (nmv (nms B1 B2 n (p + 1)) B1 B2 p q m v)))) μ') → TT X 21 [.ref 13, .int (nI p), .int (nI (rnm q p (2 ^ p - 1))), .int (nI v)] [] ν := by
      intro m
      induction m with
      | zero =>
        intro v ν hv hR1 hR2 h13 hr h
        refine tt_il3 (q := 22) hc dX1_name_21 rfl ?_
        refine tt_bipush (v := nI 8) (q := 24) hc (by decide) dX1_name_22 rfl ?_
        first | (with_reducible refine chk2 ?_; refine tt_icgeN (t := 64) (q := 27) hc (by omega) (by omega) dX1_name_24 rfl rfl (fun c_24 => ?_) (fun c_24 => ?_)) | refine tt_icge (t := 64) (q := 27) hc dX1_name_24 rfl rfl (fun c_24 => ?_) (fun c_24 => ?_)
        · refine tt_iconst (v := nI 0) (q := 65) hc rfl dX1_name_64 rfl ?_
          refine tt_retz hX rfl (by first | decide | exact bI_01 _) dX1_name_65 ?_
          exact h ν frm.rf (fun _ _ => rfl)
        · omega
      | succ m ih =>
        intro v ν hv hR1 hR2 h13 hr h
        have k1 : (rnm q p (2 ^ p - 1) / 2 ^ v) &&& 1 ≤ 1 := Nat.and_le_right
        have e1 : ν 13 1 = nI (40 + 2 * j1) := by rw [h13]; exact h1
        have e2 : ν 13 2 = nI (40 + 2 * j2) := by rw [h13]; exact h2
        rw [nmv] at h
        refine tt_il3 (q := 22) hc dX1_name_21 rfl ?_
        refine tt_bipush (v := nI 8) (q := 24) hc (by decide) dX1_name_22 rfl ?_
        first | (with_reducible refine chk2 ?_; refine tt_icgeN (t := 64) (q := 27) hc (by omega) (by omega) dX1_name_24 rfl rfl (fun c_24 => ?_) (fun c_24 => ?_)) | refine tt_icge (t := 64) (q := 27) hc dX1_name_24 rfl rfl (fun c_24 => ?_) (fun c_24 => ?_)
        · omega
        · refine tt_il2 (q := 28) hc dX1_name_27 rfl ?_
          refine tt_il3 (q := 29) hc dX1_name_28 rfl ?_
          first | (with_reducible refine chk2 ?_; refine tt_ishrN (q := 30) hc (by omega) (by omega) dX1_name_29 rfl ?_) | refine tt_ishr (q := 30) hc dX1_name_29 rfl ?_
          refine tt_iconst (v := nI 1) (q := 31) hc rfl dX1_name_30 rfl ?_
          first | (with_reducible refine chk2 ?_; refine tt_iandN (q := 32) hc dX1_name_31 rfl ?_) | (with_reducible refine chkan ?_; refine tt_iandnN (q := 32) hc dX1_name_31 rfl ?_) | (with_reducible refine chkna ?_; refine tt_inandN (q := 32) hc dX1_name_31 rfl ?_) | refine tt_iand (q := 32) hc dX1_name_31 rfl ?_
          first | (with_reducible refine chkb ?_; refine tt_ifneB (t := 58) (q := 35) hc dX1_name_32 rfl rfl (fun c_32 => ?_) (fun c_32 => ?_)) | (with_reducible refine chk1 ?_; refine tt_ifneN (t := 58) (q := 35) hc (by omega) dX1_name_32 rfl rfl (fun c_32 => ?_) (fun c_32 => ?_)) | refine tt_ifne (t := 58) (q := 35) hc dX1_name_32 rfl rfl (fun c_32 => ?_) (fun c_32 => ?_)
          · first | refine tt_inc3 (q := 61) hc dX1_name_58 rfl (by decide) (incN _) ?_ | refine tt_inc3 (q := 61) hc dX1_name_58 rfl (by decide) rfl ?_
            refine tt_goto (t := 21) hc dX1_name_61 rfl ?_
            first
            | (rw [decide_eq_false (p := (rnm q p (2 ^ p - 1) / 2 ^ v) &&& 1 = 0) (by omega), Bool.false_and, Bool.false_and, Bool.false_or] at h; exact ih _ ν (by omega) hR1 hR2 h13 hr h)
            | (rw [c_43, Bool.and_false, Bool.false_and, Bool.false_or] at h; exact ih _ _ (by omega) (hR1.frm hf (by simp; omega) (by simp; omega)) (hR2.frm hf (by simp; omega) (by simp; omega)) (by rw [hf 13 (by decide)]; exact h13) (fun s hs => by rw [g1 s hs]; exact hr s hs) (fun μ' hf' i1 => h μ' (hf.tr hf') (fun s hs => by rw [i1 s hs, g1 s hs])))
            | (rw [c_53, Bool.and_false, Bool.false_or] at h; exact ih _ _ (by omega) ((hR1.frm hf (by simp; omega) (by simp; omega)).frm hf2 (by simp; omega) (by simp; omega)) ((hR2.frm hf (by simp; omega) (by simp; omega)).frm hf2 (by simp; omega) (by simp; omega)) (by rw [hf2 13 (by decide), hf 13 (by decide)]; exact h13) (fun s hs => by rw [g3 s (by rw [Nat.pow_succ]; omega), g1 s hs]; exact hr s hs) (fun μ' hf' i1 => h μ' ((hf.tr hf2).tr hf') (fun s hs => by rw [i1 s hs, g3 s (by rw [Nat.pow_succ]; omega), g1 s hs])))
          · refine tt_al0 (q := 36) hc dX1_name_35 rfl ?_
            refine tt_il1 (q := 37) hc dX1_name_36 rfl ?_
            refine tt_iconst (v := nI 1) (q := 38) hc rfl dX1_name_37 rfl ?_
            refine tt_il3 (q := 39) hc dX1_name_38 rfl ?_
            first | (with_reducible refine chks ?_; refine tt_ishl1 (q := 40) hc (by omega) dX1_name_39 rfl ?_) | (with_reducible refine chk2 ?_; refine tt_ishlN (q := 40) hc (by omega) (by omega) dX1_name_39 rfl ?_) | refine tt_ishl (q := 40) hc dX1_name_39 rfl ?_
            refine tt_cV2 (q := 43) (d' := 0) (ci := 1) hc (by first | decide | omega) kmX1_agrees ml_X1_36 (by first | assumption | exact ⟨by decide, _, rfl⟩) rfl (Nat.le_of_ble_eq_true rfl) dX1_name_40 rfl ?_
            refine c_X1_agrees (v := v) hj1 hj2 (by omega) (by omega) hq hR1 hR2 e1 e2 hr (fun ν1 hf g1 g2 => ?_)
            dsimp only [Option.toList, List.nil_append, List.cons_append]
            first | (with_reducible refine chkb ?_; refine tt_ifeqB (t := 58) (q := 46) hc dX1_name_43 rfl rfl (fun c_43 => ?_) (fun c_43 => ?_)) | (with_reducible refine chk1 ?_; refine tt_ifeqN (t := 58) (q := 46) hc (by omega) dX1_name_43 rfl rfl (fun c_43 => ?_) (fun c_43 => ?_)) | refine tt_ifeq (t := 58) (q := 46) hc dX1_name_43 rfl rfl (fun c_43 => ?_) (fun c_43 => ?_)
            · first | refine tt_inc3 (q := 61) hc dX1_name_58 rfl (by decide) (incN _) ?_ | refine tt_inc3 (q := 61) hc dX1_name_58 rfl (by decide) rfl ?_
              refine tt_goto (t := 21) hc dX1_name_61 rfl ?_
              first
              | (rw [decide_eq_false (p := (rnm q p (2 ^ p - 1) / 2 ^ v) &&& 1 = 0) (by omega), Bool.false_and, Bool.false_and, Bool.false_or] at h; exact ih _ ν (by omega) hR1 hR2 h13 hr h)
              | (rw [c_43, Bool.and_false, Bool.false_and, Bool.false_or] at h; exact ih _ _ (by omega) (hR1.frm hf (by simp; omega) (by simp; omega)) (hR2.frm hf (by simp; omega) (by simp; omega)) (by rw [hf 13 (by decide)]; exact h13) (fun s hs => by rw [g1 s hs]; exact hr s hs) (fun μ' hf' i1 => h μ' (hf.tr hf') (fun s hs => by rw [i1 s hs, g1 s hs])))
              | (rw [c_53, Bool.and_false, Bool.false_or] at h; exact ih _ _ (by omega) ((hR1.frm hf (by simp; omega) (by simp; omega)).frm hf2 (by simp; omega) (by simp; omega)) ((hR2.frm hf (by simp; omega) (by simp; omega)).frm hf2 (by simp; omega) (by simp; omega)) (by rw [hf2 13 (by decide), hf 13 (by decide)]; exact h13) (fun s hs => by rw [g3 s (by rw [Nat.pow_succ]; omega), g1 s hs]; exact hr s hs) (fun μ' hf' i1 => h μ' ((hf.tr hf2).tr hf') (fun s hs => by rw [i1 s hs, g3 s (by rw [Nat.pow_succ]; omega), g1 s hs])))
            · refine tt_al0 (q := 47) hc dX1_name_46 rfl ?_
              refine tt_il1 (q := 48) hc dX1_name_47 rfl ?_
              refine tt_iconst (v := nI 1) (q := 49) hc rfl dX1_name_48 rfl ?_
              first | (with_reducible refine chk2 ?_; refine tt_iaddN (q := 50) hc dX1_name_49 rfl ?_) | refine tt_iadd (q := 50) hc dX1_name_49 rfl ?_
              refine tt_cS2 (q := 53) (d' := n + 1) hc (by omega) kmX1_name ml_X1_32 (Nat.le_of_ble_eq_true rfl) dX1_name_50 rfl ?_
              refine ihn (p + 1) (qset q p v) ν1 _ (by omega) (fun i hi => by simp only [qset]; split; omega; exact hq i (by omega)) (hR1.frm hf (by simp; omega) (by simp; omega)) (hR2.frm hf (by simp; omega) (by simp; omega)) (by rw [hf 13 (by decide)]; exact e1) (by rw [hf 13 (by decide)]; exact e2) (fun s hs => ?_) (fun ν2 hf2 g3 => ?_)
              · by_cases e : s < 2 ^ p
                · rw [g1 s e, hr s e, rnm_lo e]
                · obtain ⟨k, rfl⟩ : ∃ k, s = k + 2 ^ p := ⟨s - 2 ^ p, by omega⟩
                  rw [Nat.pow_succ] at hs
                  rw [g2 c_43 k (by omega), rnm_hi (by omega) (by omega)]
              dsimp only [Option.toList, List.nil_append, List.cons_append]
              first | (with_reducible refine chkb ?_; refine tt_ifeqB (t := 58) (q := 56) hc dX1_name_53 rfl rfl (fun c_53 => ?_) (fun c_53 => ?_)) | (with_reducible refine chk1 ?_; refine tt_ifeqN (t := 58) (q := 56) hc (by omega) dX1_name_53 rfl rfl (fun c_53 => ?_) (fun c_53 => ?_)) | refine tt_ifeq (t := 58) (q := 56) hc dX1_name_53 rfl rfl (fun c_53 => ?_) (fun c_53 => ?_)
              · first | refine tt_inc3 (q := 61) hc dX1_name_58 rfl (by decide) (incN _) ?_ | refine tt_inc3 (q := 61) hc dX1_name_58 rfl (by decide) rfl ?_
                refine tt_goto (t := 21) hc dX1_name_61 rfl ?_
                first
                | (rw [decide_eq_false (p := (rnm q p (2 ^ p - 1) / 2 ^ v) &&& 1 = 0) (by omega), Bool.false_and, Bool.false_and, Bool.false_or] at h; exact ih _ ν (by omega) hR1 hR2 h13 hr h)
                | (rw [c_43, Bool.and_false, Bool.false_and, Bool.false_or] at h; exact ih _ _ (by omega) (hR1.frm hf (by simp; omega) (by simp; omega)) (hR2.frm hf (by simp; omega) (by simp; omega)) (by rw [hf 13 (by decide)]; exact h13) (fun s hs => by rw [g1 s hs]; exact hr s hs) (fun μ' hf' i1 => h μ' (hf.tr hf') (fun s hs => by rw [i1 s hs, g1 s hs])))
                | (rw [c_53, Bool.and_false, Bool.false_or] at h; exact ih _ _ (by omega) ((hR1.frm hf (by simp; omega) (by simp; omega)).frm hf2 (by simp; omega) (by simp; omega)) ((hR2.frm hf (by simp; omega) (by simp; omega)).frm hf2 (by simp; omega) (by simp; omega)) (by rw [hf2 13 (by decide), hf 13 (by decide)]; exact h13) (fun s hs => by rw [g3 s (by rw [Nat.pow_succ]; omega), g1 s hs]; exact hr s hs) (fun μ' hf' i1 => h μ' ((hf.tr hf2).tr hf') (fun s hs => by rw [i1 s hs, g3 s (by rw [Nat.pow_succ]; omega), g1 s hs])))
              · refine tt_iconst (v := nI 1) (q := 57) hc rfl dX1_name_56 rfl ?_
                refine tt_retz hX rfl (by first | decide | exact bI_01 _) dX1_name_57 ?_
                rw [decide_eq_true c_32, c_43, c_53] at h
                exact h ν2 (hf.tr hf2) (fun s hs => by rw [g3 s (by rw [Nat.pow_succ]; omega), g1 s hs])
    refine tt_il1 (q := 1) hc dX1_name_0 rfl ?_
    refine tt_bipush (v := nI 8) (q := 3) hc (by decide) dX1_name_1 rfl ?_
    first | (with_reducible refine chk2 ?_; refine tt_icltN (t := 8) (q := 6) hc (by omega) (by omega) dX1_name_3 rfl rfl (fun c_3 => ?_) (fun c_3 => ?_)) | refine tt_iclt (t := 8) (q := 6) hc dX1_name_3 rfl rfl (fun c_3 => ?_) (fun c_3 => ?_)
    · refine tt_al0 (q := 9) hc dX1_name_8 rfl ?_
      refine tt_getR (q := 12) hc fl_X1_9 (by first | assumption | exact ⟨by decide, _, rfl, rfl⟩) dX1_name_9 rfl ?_
      refine tt_iconst (v := nI 1) (q := 13) hc rfl dX1_name_12 rfl ?_
      refine tt_il1 (q := 14) hc dX1_name_13 rfl ?_
      first | (with_reducible refine chks ?_; refine tt_ishl1 (q := 15) hc (by omega) dX1_name_14 rfl ?_) | (with_reducible refine chk2 ?_; refine tt_ishlN (q := 15) hc (by omega) (by omega) dX1_name_14 rfl ?_) | refine tt_ishl (q := 15) hc dX1_name_14 rfl ?_
      refine tt_iconst (v := nI 1) (q := 16) hc rfl dX1_name_15 rfl ?_
      first | (with_reducible refine chk2 ?_; refine tt_isubN (q := 17) hc (by omega) dX1_name_16 rfl ?_) | refine tt_isub (q := 17) hc dX1_name_16 rfl ?_
      refine tt_iald (q := 18) hc (by first | assumption | exact ⟨by decide, rfl, by decide⟩) (by omega) dX1_name_17 rfl ?_
      rw [hr _ (by omega)]
      refine tt_is2 (q := 19) hc dX1_name_18 rfl (by decide) ?_
      refine tt_iconst (v := nI 0) (q := 20) hc rfl dX1_name_19 rfl ?_
      refine tt_is3 (q := 21) hc dX1_name_20 rfl (by decide) ?_
      exact L 8 0 μ rfl hR1 hR2 rfl hr hQ
    · omega
/-- ALIKE, as the class looks for it -/
def alk (K1 : Nat) (B1 : Nat → Bool) (K2 : Nat) (B2 : Nat → Bool) : Bool := decide (K1 = K2) && decide (tot B1 = tot B2) && nms B1 B2 8 0 (fun _ => 0)
set_option maxHeartbeats 8000000 in
theorem c_X1_fit {l : Launch} {j1 j2 K1 K2 : Nat} {B1 B2 : Nat → Bool} {μ : Mem} {Q : Option Value → Mem → Prop} (hj1 : j1 < 16) (hj2 : j2 < 16) (hR1 : RC μ j1 K1 B1) (hR2 : RC μ j2 K2 B2) (hQ : ∀ μ', frm [13, 14] μ μ' → Q (some (.int (bI (alk K1 B1 K2 B2)))) μ') : CC l 10 mX1_fit [.ref 13, .ref (40 + 2 * j1), .ref (40 + 2 * j2)] μ Q := by
  refine CC.of (M := mX1_fit) (by decide +kernel) rfl (fun v h => by simp at h; rcases h with rfl | rfl | rfl <;> rfl) (Nat.le_of_ble_eq_true rfl) (fun X hX => ?_)
  have hc := hX.cx
  have k1 : HI (40 + 2 * j1) 0 0 := ⟨by omega, _, sh_ho hj1, _, rfl⟩
  have k2 : HI (40 + 2 * j2) 0 0 := ⟨by omega, _, sh_ho hj2, _, rfl⟩
  have o1 : HO (40 + 2 * j1) 0 := ⟨by omega, _, sh_ho hj1⟩
  have o2 : HO (40 + 2 * j2) 0 := ⟨by omega, _, sh_ho hj2⟩
  have d1 : HD 13 1 1 := ⟨by decide, _, rfl, _, rfl⟩
  have d2 : HD 13 1 2 := ⟨by decide, _, rfl, _, rfl⟩
  have a14 : HA 14 0 256 := ⟨by decide, rfl, by decide⟩
  have t1 := tot_le hR1.1
  have t2 := tot_le hR2.1
  have b1 := hR1.1.1
  have b2 := hR2.1.1
  rw [alk] at hQ
  refine tt_al1 (q := 1) hc dX1_fit_0 rfl ?_
  refine tt_getI (q := 4) hc fl_X1_15 (by first | assumption | exact ⟨by decide, _, rfl, _, rfl⟩) dX1_fit_1 rfl ?_
  rw [hR1.2.1]
  refine tt_al2 (q := 5) hc dX1_fit_4 rfl ?_
  refine tt_getI (q := 8) hc fl_X1_15 (by first | assumption | exact ⟨by decide, _, rfl, _, rfl⟩) dX1_fit_5 rfl ?_
  rw [hR2.2.1]
  first | (with_reducible refine chk2 ?_; refine tt_icneN (t := 22) (q := 11) hc (by omega) (by omega) dX1_fit_8 rfl rfl (fun c_8 => ?_) (fun c_8 => ?_)) | refine tt_icne (t := 22) (q := 11) hc dX1_fit_8 rfl rfl (fun c_8 => ?_) (fun c_8 => ?_)
  · refine tt_iconst (v := nI 0) (q := 23) hc rfl dX1_fit_22 rfl ?_
    refine tt_retz hX rfl (by first | decide | exact bI_01 _) dX1_fit_23 ?_
    first
    | (rw [decide_eq_false c_8, Bool.false_and, Bool.false_and] at hQ; exact hQ μ frm.rf)
    | (rw [decide_eq_false c_19, Bool.and_false, Bool.false_and] at hQ; exact hQ μ frm.rf)
  · refine tt_al1 (q := 12) hc dX1_fit_11 rfl ?_
    refine tt_cV0 (q := 15) (d' := 0) (ci := 0) hc (by decide) kmX0_total ml_X1_21 o1 rfl (Nat.le_of_ble_eq_true rfl) dX1_fit_12 rfl ?_
    refine c_X0_total hj1 hR1 ?_
    dsimp only [Option.toList, List.nil_append, List.cons_append]
    refine tt_al2 (q := 16) hc dX1_fit_15 rfl ?_
    refine tt_cV0 (q := 19) (d' := 0) (ci := 0) hc (by decide) kmX0_total ml_X1_21 o2 rfl (Nat.le_of_ble_eq_true rfl) dX1_fit_16 rfl ?_
    refine c_X0_total hj2 hR2 ?_
    dsimp only [Option.toList, List.nil_append, List.cons_append]
    first | (with_reducible refine chk2 ?_; refine tt_iceqN (t := 24) (q := 22) hc (by omega) (by omega) dX1_fit_19 rfl rfl (fun c_19 => ?_) (fun c_19 => ?_)) | refine tt_iceq (t := 24) (q := 22) hc dX1_fit_19 rfl rfl (fun c_19 => ?_) (fun c_19 => ?_)
    · refine tt_al0 (q := 25) hc dX1_fit_24 rfl ?_
      refine tt_al1 (q := 26) hc dX1_fit_25 rfl ?_
      refine tt_putD (q := 29) hc fp_X1_25 d1 (by omega) dX1_fit_26 rfl ?_
      refine tt_al0 (q := 30) hc dX1_fit_29 rfl ?_
      refine tt_al2 (q := 31) hc dX1_fit_30 rfl ?_
      refine tt_putD (q := 34) hc fp_X1_29 d2 (by omega) dX1_fit_31 rfl ?_
      refine tt_al0 (q := 35) hc dX1_fit_34 rfl ?_
      refine tt_getR (q := 38) hc fl_X1_9 (by first | assumption | exact ⟨by decide, _, rfl, rfl⟩) dX1_fit_35 rfl ?_
      refine tt_iconst (v := nI 0) (q := 39) hc rfl dX1_fit_38 rfl ?_
      refine tt_iconst (v := nI 0) (q := 40) hc rfl dX1_fit_39 rfl ?_
      refine tt_iast (q := 41) hc (by first | assumption | exact ⟨by decide, rfl, by decide⟩) (by omega) dX1_fit_40 rfl ?_
      refine tt_al0 (q := 42) hc dX1_fit_41 rfl ?_
      refine tt_iconst (v := nI 0) (q := 43) hc rfl dX1_fit_42 rfl ?_
      have hf : frm [13, 14] μ (mset (mset (mset μ 13 (upd (μ 13) 1 (nI (40 + 2 * j1)))) 13 (upd (mset μ 13 (upd (μ 13) 1 (nI (40 + 2 * j1))) 13) 2 (nI (40 + 2 * j2)))) 14 (upd (mset (mset μ 13 (upd (μ 13) 1 (nI (40 + 2 * j1)))) 13 (upd (mset μ 13 (upd (μ 13) 1 (nI (40 + 2 * j1))) 13) 2 (nI (40 + 2 * j2))) 14) 0 (nI 0))) := ((frm.set (i := 13)).mono (by simp)).tr (((frm.set (i := 13)).mono (by simp)).tr ((frm.set (i := 14)).mono (by simp)))
      refine tt_cS2 (q := 46) (d' := 8 + 1) hc (by decide) kmX1_name ml_X1_32 (Nat.le_of_ble_eq_true rfl) dX1_fit_43 rfl ?_
      refine c_X1_name hj1 hj2 8 0 (fun _ => 0) _ _ rfl (fun i hi => by omega) (hR1.frm hf (by simp; omega) (by simp; omega)) (hR2.frm hf (by simp; omega) (by simp; omega)) ?_ ?_ (fun s hs => ?_) (fun ν hf2 _ => ?_)
      · rw [mset_ne (by decide), mset_eq, pk_un (by decide), mset_eq, pk_us]
      · rw [mset_ne (by decide), mset_eq, pk_us]
      · rw [show s = 0 by omega, mset_eq, pk_us]
        rfl
      dsimp only [Option.toList, List.nil_append, List.cons_append]
      refine tt_retz hX rfl (by first | decide | exact bI_01 _) dX1_fit_46 ?_
      rw [decide_eq_true c_8, decide_eq_true c_19, Bool.true_and, Bool.true_and] at hQ
      exact hQ ν (hf.tr (hf2.mono (by simp)))
    · refine tt_iconst (v := nI 0) (q := 23) hc rfl dX1_fit_22 rfl ?_
      refine tt_retz hX rfl (by first | decide | exact bI_01 _) dX1_fit_23 ?_
      first
      | (rw [decide_eq_false c_8, Bool.false_and, Bool.false_and] at hQ; exact hQ μ frm.rf)
      | (rw [decide_eq_false c_19, Bool.and_false, Bool.false_and] at hQ; exact hQ μ frm.rf)
