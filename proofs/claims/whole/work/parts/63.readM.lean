/-! THE MODEL: words taken -/
theorem eqN_iff {tx : List Nat} {w f : Nat} : ∀ n i, eqN tx w f n i = true ↔ ∀ j, i ≤ j → j < i + n → nI (tx.getD (f + j) 0) = (litB.getD w []).getD j 0
  | 0, i => by
    constructor
    · intro _ j h1 h2
      omega
    · intro _
      rfl
  | n + 1, i => by
    rw [eqN, Bool.and_eq_true, eqN_iff n (i + 1), decide_eq_true_eq]
    constructor
    · rintro ⟨h1, h2⟩ j h3 h4
      by_cases e : j = i
      · subst e
        exact h1
      · exact h2 j (by omega) (by omega)
    · intro h
      exact ⟨h i (Nat.le_refl _) (by omega), fun j h1 h2 => h j (by omega) (by omega)⟩
theorem lit_ne : ∀ w, w < 12 → ∀ v, v < 12 → w = v ∨ ¬ litL.getD w 0 = litL.getD v 0 ∨ ∃ i, i < 8 ∧ i < litL.getD w 0 ∧ ¬ (litB.getD w []).getD i 0 = (litB.getD v []).getD i 0 := by decide +kernel
theorem stB_one {tx : List Nat} {w v f t : Nat} (hw : w < 12) (hv : v < 12) (h1 : stB tx w f t = true) (h2 : stB tx v f t = true) : w = v := by
  unfold stB at h1 h2
  rw [Bool.and_eq_true, decide_eq_true_eq, eqN_iff] at h1 h2
  rcases lit_ne w hw v hv with e | e | ⟨i, _, i2, i3⟩
  · exact e
  · exact absurd (h1.1.trans h2.1.symm) e
  · refine absurd ?_ i3
    rw [← h1.2 i (Nat.zero_le _) (by omega), ← h2.2 i (Nat.zero_le _) (by omega)]
theorem woN_some {tx : List Nat} {f t w : Nat} : ∀ n v, woN tx f t n v = some w → v ≤ w ∧ w < v + n ∧ stB tx w f t = true
  | 0, v, h => by cases h
  | n + 1, v, h => by
    rw [woN] at h
    split at h
    · rename_i c
      cases h
      exact ⟨Nat.le_refl _, by omega, c⟩
    · have := woN_some n (v + 1) h
      exact ⟨by omega, by omega, this.2.2⟩
theorem woN_none {tx : List Nat} {f t : Nat} : ∀ n v, woN tx f t n v = none → ∀ w, v ≤ w → w < v + n → stB tx w f t = false
  | 0, v, h, w, h1, h2 => by omega
  | n + 1, v, h, w, h1, h2 => by
    rw [woN] at h
    split at h
    · cases h
    · rename_i c
      by_cases e : w = v
      · subst e
        cases x : stB tx w f t
        · rfl
        · exact absurd x c
      · exact woN_none n (v + 1) h w (by omega) (by omega)
def woM (tx : List Nat) (f t : Nat) : Nat → Nat → Nat
  | 0, w => w
  | n + 1, w => if stB tx (sw w) f t = true then w else woM tx f t n (w + 1)
theorem woM_none {tx : List Nat} {f t : Nat} (h : ∀ w, w < 12 → stB tx w f t = false) : ∀ n w, w + n = 12 → woM tx f t n w = 12
  | 0, w, hw => by
    rw [woM]
    omega
  | n + 1, w, hw => by
    rw [woM, h _ (sw_lt (show w < 12 by omega)), if_neg Bool.false_ne_true]
    exact woM_none h n (w + 1) (by omega)
theorem woM_some {tx : List Nat} {f t v : Nat} (hv : v < 12) (h : stB tx v f t = true) : ∀ n w, w + n = 12 → w ≤ sw v → woM tx f t n w = sw v
  | 0, w, hw, hle => by
    have := sw_lt hv
    omega
  | n + 1, w, hw, hle => by
    rw [woM]
    by_cases c : stB tx (sw w) f t = true
    · rw [if_pos c]
      have := stB_one (sw_lt (show w < 12 by omega)) hv c h
      rw [← this, sw_sw]
    · rw [if_neg c]
      refine woM_some hv h n (w + 1) (by omega) ?_
      rcases Nat.lt_or_eq_of_le hle with z | z
      · omega
      · exfalso
        apply c
        rw [z, sw_sw]
        exact h
theorem woM_wo {tx : List Nat} {f t : Nat} : woM tx f t 12 0 = match wo tx f t with | none => 12 | some v => sw v := by
  cases h : wo tx f t with
  | none => exact woM_none (fun w hw => woN_none 12 0 h w (Nat.zero_le _) (by omega)) 12 0 rfl
  | some v =>
    have := woN_some 12 0 h
    exact woM_some (by omega) this.2.2 12 0 rfl (Nat.zero_le _)
theorem lit_pos : ∀ w, w < 12 → 0 < litL.getD w 0 := by decide
theorem wo_same {tx : List Nat} {p : Nat} : wo tx p p = none := by
  cases h : wo tx p p with
  | none => rfl
  | some v =>
    have := woN_some 12 0 h
    have h3 := this.2.2
    unfold stB at h3
    rw [Bool.and_eq_true, decide_eq_true_eq] at h3
    have := lit_pos v (by omega)
    omega
/-- a word's number: what its digits tell -/
def numV (tx : List Nat) (q : Nat × Nat × Nat) : Int32 := if q.1 = 11 then nI (psM (psN tx (q.2.2 - q.2.1) q.2.1 0)) else nI (valN tx (q.2.2 - q.2.1) q.2.1 0)
/-- the model's words -/
def WM (μ : Mem) (tx : List Nat) (ws : List (Nat × Nat × Nat)) : Prop := μ 24 21 = nI ws.length ∧ ∀ i q, ws[i]? = some q → μ 39 i = nI (sw q.1) ∧ μ 25 i = numV tx q
theorem HA39 : HA 39 0 12 := ⟨by decide, rfl, by decide⟩
theorem HA25 : HA 25 0 12 := ⟨by decide, rfl, by decide⟩
theorem WM.push {ν ν' : Mem} {tx : List Nat} {pre : List (Nat × Nat × Nat)} {q : Nat × Nat × Nat} (h : WM ν tx pre) (e24 : ν' 24 21 = nI (pre.length + 1)) (e39 : ν' 39 = upd (ν 39) pre.length (nI (sw q.1))) (e25 : ν' 25 = upd (ν 25) pre.length (numV tx q)) : WM ν' tx (pre ++ [q]) := by
  refine ⟨by rw [e24, snoc_len], fun i r hr => ?_⟩
  rw [e39, e25]
  by_cases e : i < pre.length
  · rw [List.getElem?_append_left e] at hr
    rw [pk_un (by omega), pk_un (by omega)]
    exact h.2 i r hr
  · have hl := (List.getElem?_eq_some_iff.mp hr).1
    rw [snoc_len] at hl
    have e2 : i = pre.length := by omega
    subst e2
    rw [List.getElem?_append_right (Nat.le_refl _), Nat.sub_self] at hr
    simp only [List.getElem?_cons_zero, Option.some.injEq] at hr
    rw [pk_us, pk_us, ← hr]
    exact ⟨rfl, rfl⟩
theorem bhN_step {tx : List Nat} {a b i n : Nat} (hn : i + n = tx.length) : bhN tx a b n i = if (decide (i < tx.length) && decide (a ≤ tx.getD i 0 ∧ tx.getD i 0 ≤ b)) = true then bhN tx a b (n - 1) (i + 1) else i := by
  cases n with
  | zero =>
    rw [bhN, decide_eq_false (by omega), Bool.false_and, if_neg Bool.false_ne_true]
  | succ n =>
    rw [bhN, decide_eq_true (by omega), Bool.true_and, Nat.add_sub_cancel]
    by_cases c : a ≤ tx.getD i 0 ∧ tx.getD i 0 ≤ b
    · rw [if_neg (by omega), if_pos (decide_eq_true c)]
    · rw [if_pos (by omega), if_neg (by simpa using c)]
set_option maxHeartbeats 4000000 in
theorem c_X9_takesWord {l : Launch} {p : Nat} {tx : List Nat} {pre : List (Nat × Nat × Nat)} {μ : Mem} {Q : Option Value → Mem → Prop} (hX6 : MX μ tx) (hat : μ 24 20 = nI p) (hp : p ≤ tx.length) (hW : WM μ tx pre) (hpl : pre.length < 12)
    (hF : (wo tx p (bh tx 97 122 p) = none ∨ ∃ w, wo tx p (bh tx 97 122 p) = some w ∧ (bh tx 48 57 (bh tx 97 122 p) - bh tx 97 122 p < fewN w ∨ mostN w < bh tx 48 57 (bh tx 97 122 p) - bh tx 97 122 p)) → Q (some (.int (nI 0))) μ)
    (hT : ∀ w, wo tx p (bh tx 97 122 p) = some w → ¬ (bh tx 48 57 (bh tx 97 122 p) - bh tx 97 122 p < fewN w ∨ mostN w < bh tx 48 57 (bh tx 97 122 p) - bh tx 97 122 p) → ∀ μ', mg [39, 25] [20, 21] μ μ' → WM μ' tx (pre ++ [(w, bh tx 97 122 p, bh tx 48 57 (bh tx 97 122 p))]) → μ' 24 20 = nI (bh tx 48 57 (bh tx 97 122 p)) → Q (some (.int (nI 1))) μ') : CC l 5 mX9_takesWord [.ref 24] μ Q := by
  refine CC.of (M := mX9_takesWord) (by decide +kernel) rfl (fun v h => by simp at h; subst h; rfl) (Nat.le_of_ble_eq_true rfl) (fun X hX => ?_)
  have hc := hX.cx
  have h1 := hX6.1
  have a39 := HA39
  have a25 := HA25
  have e21 := hW.1
  have b1 := bhN_le tx 97 122 (tx.length - p) p
  have b2 := bhN_le tx 48 57 (tx.length - bh tx 97 122 p) (bh tx 97 122 p)
  have b3 := fun i h1 h2 => bhN_in (tx := tx) (a := 48) (b := 57) (tx.length - bh tx 97 122 p) (bh tx 97 122 p) i h1 h2
  rw [← bh] at b1
  rw [← bh] at b2 b3
  have hws := fun z : bh tx 97 122 p = p => wo_same (tx := tx) (p := p)
  have hwm := woM_wo (tx := tx) (f := p) (t := bh tx 97 122 p)
  have A1 : ∀ (n i : Nat) (w2 w3 : Value), i + n = tx.length → (∀ w2 w3, TT X 19 [.ref 24, .int (nI (bhN tx 97 122 n i)), w2, w3] [] μ) → TT X 5 [.ref 24, .int (nI i), w2, w3] [] μ := by
    intro n
    induction n with
    | zero =>
      intro i w2 w3 hi h
      have hs := bhN_step (tx := tx) (a := 97) (b := 122) hi
      refine tt_al0 (q := 6) hc dX9_takesWord_5 rfl ?_
      refine tt_il1 (q := 7) hc dX9_takesWord_6 rfl ?_
      refine tt_cV1 (q := 10) (d' := 1) (ci := 9) hc (by first | decide | omega) kmX9_isLetter ml_X9_281 (by first | assumption | exact ⟨by decide, _, rfl⟩) rfl (Nat.le_of_ble_eq_true rfl) dX9_takesWord_7 rfl ?_
      refine c_X9_isLetter hX6 (by omega) ?_
      rw [decide_eq_false (show ¬ i < tx.length by omega), Bool.false_and]
      dsimp only [Option.toList, List.nil_append, List.cons_append]
      first | (with_reducible refine chkb ?_; refine tt_ifeqB (t := 19) (q := 13) hc dX9_takesWord_10 rfl rfl (fun c_10 => ?_) (fun c_10 => ?_)) | (with_reducible refine chk1 ?_; refine tt_ifeqN (t := 19) (q := 13) hc (by omega) dX9_takesWord_10 rfl rfl (fun c_10 => ?_) (fun c_10 => ?_)) | refine tt_ifeq (t := 19) (q := 13) hc dX9_takesWord_10 rfl rfl (fun c_10 => ?_) (fun c_10 => ?_)
      · exact h _ _
      · cases c_10
    | succ n ih =>
      intro i w2 w3 hi h
      have hs := bhN_step (tx := tx) (a := 97) (b := 122) hi
      refine tt_al0 (q := 6) hc dX9_takesWord_5 rfl ?_
      refine tt_il1 (q := 7) hc dX9_takesWord_6 rfl ?_
      refine tt_cV1 (q := 10) (d' := 1) (ci := 9) hc (by first | decide | omega) kmX9_isLetter ml_X9_281 (by first | assumption | exact ⟨by decide, _, rfl⟩) rfl (Nat.le_of_ble_eq_true rfl) dX9_takesWord_7 rfl ?_
      refine c_X9_isLetter hX6 (by omega) ?_
      dsimp only [Option.toList, List.nil_append, List.cons_append]
      first | (with_reducible refine chkb ?_; refine tt_ifeqB (t := 19) (q := 13) hc dX9_takesWord_10 rfl rfl (fun c_10 => ?_) (fun c_10 => ?_)) | (with_reducible refine chk1 ?_; refine tt_ifeqN (t := 19) (q := 13) hc (by omega) dX9_takesWord_10 rfl rfl (fun c_10 => ?_) (fun c_10 => ?_)) | refine tt_ifeq (t := 19) (q := 13) hc dX9_takesWord_10 rfl rfl (fun c_10 => ?_) (fun c_10 => ?_)
      · rw [c_10, if_neg Bool.false_ne_true] at hs
        rw [hs] at h
        exact h _ _
      · first | refine tt_inc1 (q := 16) hc dX9_takesWord_13 rfl (by decide) (incN _) ?_ | refine tt_inc1 (q := 16) hc dX9_takesWord_13 rfl (by decide) rfl ?_
        refine tt_goto (t := 5) hc dX9_takesWord_16 rfl ?_
        rw [c_10, if_pos rfl, Nat.add_sub_cancel] at hs
        rw [hs] at h
        exact ih (i + 1) _ _ (by omega) h
  have A2 : ∀ (e1 : Nat), p ≤ e1 → e1 ≤ tx.length → ∀ (n w : Nat) (w3 : Value), w + n = 12 → (∀ w3, TT X 45 [.ref 24, .int (nI e1), .int (nI (woM tx p e1 n w)), w3] [] μ) → TT X 21 [.ref 24, .int (nI e1), .int (nI w), w3] [] μ := by
    intro e1 hpe hel n
    induction n with
    | zero =>
      intro w w3 hw h
      refine tt_il2 (q := 22) hc dX9_takesWord_21 rfl ?_
      refine tt_bipush (v := nI 12) (q := 24) hc (by decide) dX9_takesWord_22 rfl ?_
      first | (with_reducible refine chk2 ?_; refine tt_icgeN (t := 45) (q := 27) hc (by omega) (by omega) dX9_takesWord_24 rfl rfl (fun c_24 => ?_) (fun c_24 => ?_)) | refine tt_icge (t := 45) (q := 27) hc dX9_takesWord_24 rfl rfl (fun c_24 => ?_) (fun c_24 => ?_)
      · exact h _
      · omega
    | succ n ih =>
      intro w w3 hw h
      rw [woM] at h
      refine tt_il2 (q := 22) hc dX9_takesWord_21 rfl ?_
      refine tt_bipush (v := nI 12) (q := 24) hc (by decide) dX9_takesWord_22 rfl ?_
      first | (with_reducible refine chk2 ?_; refine tt_icgeN (t := 45) (q := 27) hc (by omega) (by omega) dX9_takesWord_24 rfl rfl (fun c_24 => ?_) (fun c_24 => ?_)) | refine tt_icge (t := 45) (q := 27) hc dX9_takesWord_24 rfl rfl (fun c_24 => ?_) (fun c_24 => ?_)
      · omega
      · refine tt_al0 (q := 28) hc dX9_takesWord_27 rfl ?_
        refine tt_il2 (q := 29) hc dX9_takesWord_28 rfl ?_
        refine tt_cS1 (q := 32) (d' := 0) hc (by first | decide | omega) kmX9_wordOf ml_X9_284 (Nat.le_of_ble_eq_true rfl) dX9_takesWord_29 rfl ?_
        refine c_X9_wordOf (by omega) ?_
        dsimp only [Option.toList, List.nil_append, List.cons_append]
        refine tt_il1 (q := 33) hc dX9_takesWord_32 rfl ?_
        refine tt_cV2 (q := 36) (d' := 4) (ci := 9) hc (by first | decide | omega) kmX9_isWord ml_X9_288 (by first | assumption | exact ⟨by decide, _, rfl⟩) rfl (Nat.le_of_ble_eq_true rfl) dX9_takesWord_33 rfl ?_
        refine c_X9_isWord hX6 hat (sw_lt (by omega)) hpe hel ?_
        dsimp only [Option.toList, List.nil_append, List.cons_append]
        first | (with_reducible refine chkb ?_; refine tt_ifneB (t := 45) (q := 39) hc dX9_takesWord_36 rfl rfl (fun c_36 => ?_) (fun c_36 => ?_)) | (with_reducible refine chk1 ?_; refine tt_ifneN (t := 45) (q := 39) hc (by omega) dX9_takesWord_36 rfl rfl (fun c_36 => ?_) (fun c_36 => ?_)) | refine tt_ifne (t := 45) (q := 39) hc dX9_takesWord_36 rfl rfl (fun c_36 => ?_) (fun c_36 => ?_)
        · rw [c_36, if_pos rfl] at h
          exact h _
        · first | refine tt_inc2 (q := 42) hc dX9_takesWord_39 rfl (by decide) (incN _) ?_ | refine tt_inc2 (q := 42) hc dX9_takesWord_39 rfl (by decide) rfl ?_
          refine tt_goto (t := 21) hc dX9_takesWord_42 rfl ?_
          rw [c_36, if_neg Bool.false_ne_true] at h
          exact ih (w + 1) _ (by omega) h
  have A3 : ∀ (e1 w : Nat), ∀ (n i : Nat), i + n = tx.length → TT X 61 [.ref 24, .int (nI e1), .int (nI w), .int (nI (bhN tx 48 57 n i))] [] μ → TT X 47 [.ref 24, .int (nI e1), .int (nI w), .int (nI i)] [] μ := by
    intro e1 w n
    induction n with
    | zero =>
      intro i hi h
      refine tt_al0 (q := 48) hc dX9_takesWord_47 rfl ?_
      refine tt_il3 (q := 49) hc dX9_takesWord_48 rfl ?_
      refine tt_cV1 (q := 52) (d' := 1) (ci := 9) hc (by first | decide | omega) kmX9_isDigit ml_X9_292 (by first | assumption | exact ⟨by decide, _, rfl⟩) rfl (Nat.le_of_ble_eq_true rfl) dX9_takesWord_49 rfl ?_
      refine c_X9_isDigit hX6 (by omega) ?_
      rw [decide_eq_false (show ¬ i < tx.length by omega), Bool.false_and]
      dsimp only [Option.toList, List.nil_append, List.cons_append]
      first | (with_reducible refine chkb ?_; refine tt_ifeqB (t := 61) (q := 55) hc dX9_takesWord_52 rfl rfl (fun c_52 => ?_) (fun c_52 => ?_)) | (with_reducible refine chk1 ?_; refine tt_ifeqN (t := 61) (q := 55) hc (by omega) dX9_takesWord_52 rfl rfl (fun c_52 => ?_) (fun c_52 => ?_)) | refine tt_ifeq (t := 61) (q := 55) hc dX9_takesWord_52 rfl rfl (fun c_52 => ?_) (fun c_52 => ?_)
      · exact h
      · cases c_52
    | succ n ih =>
      intro i hi h
      have hs := bhN_step (tx := tx) (a := 48) (b := 57) hi
      refine tt_al0 (q := 48) hc dX9_takesWord_47 rfl ?_
      refine tt_il3 (q := 49) hc dX9_takesWord_48 rfl ?_
      refine tt_cV1 (q := 52) (d' := 1) (ci := 9) hc (by first | decide | omega) kmX9_isDigit ml_X9_292 (by first | assumption | exact ⟨by decide, _, rfl⟩) rfl (Nat.le_of_ble_eq_true rfl) dX9_takesWord_49 rfl ?_
      refine c_X9_isDigit hX6 (by omega) ?_
      dsimp only [Option.toList, List.nil_append, List.cons_append]
      first | (with_reducible refine chkb ?_; refine tt_ifeqB (t := 61) (q := 55) hc dX9_takesWord_52 rfl rfl (fun c_52 => ?_) (fun c_52 => ?_)) | (with_reducible refine chk1 ?_; refine tt_ifeqN (t := 61) (q := 55) hc (by omega) dX9_takesWord_52 rfl rfl (fun c_52 => ?_) (fun c_52 => ?_)) | refine tt_ifeq (t := 61) (q := 55) hc dX9_takesWord_52 rfl rfl (fun c_52 => ?_) (fun c_52 => ?_)
      · rw [c_52, if_neg Bool.false_ne_true] at hs
        rw [hs] at h
        exact h
      · first | refine tt_inc3 (q := 58) hc dX9_takesWord_55 rfl (by decide) (incN _) ?_ | refine tt_inc3 (q := 58) hc dX9_takesWord_55 rfl (by decide) rfl ?_
        refine tt_goto (t := 47) hc dX9_takesWord_58 rfl ?_
        rw [c_52, if_pos rfl, Nat.add_sub_cancel] at hs
        rw [hs] at h
        exact ih (i + 1) (by omega) h
  have A4 : TT X 61 [.ref 24, .int (nI (bh tx 97 122 p)), .int (nI (woM tx p (bh tx 97 122 p) 12 0)), .int (nI (bh tx 48 57 (bh tx 97 122 p)))] [] μ := by
    generalize he1 : bh tx 97 122 p = e1 at *
    generalize he2 : bh tx 48 57 e1 = e2 at *
    cases hwo : wo tx p e1 with
    | none =>
      rw [hwo] at hwm
      dsimp only at hwm
      rw [hwm]
      refine tt_il1 (q := 62) hc dX9_takesWord_61 rfl ?_
      refine tt_al0 (q := 63) hc dX9_takesWord_62 rfl ?_
      refine tt_getI (q := 66) hc fl_X9_269 (by first | assumption | exact ⟨by decide, _, rfl, _, rfl⟩) dX9_takesWord_63 rfl ?_
      rw [hat]
      first | (with_reducible refine chk2 ?_; refine tt_iceqN (t := 85) (q := 69) hc (by omega) (by omega) dX9_takesWord_66 rfl rfl (fun c_66 => ?_) (fun c_66 => ?_)) | refine tt_iceq (t := 85) (q := 69) hc dX9_takesWord_66 rfl rfl (fun c_66 => ?_) (fun c_66 => ?_)
      · refine tt_iconst (v := nI 0) (q := 86) hc rfl dX9_takesWord_85 rfl ?_
        refine tt_retz hX rfl (by first | decide | exact bI_01 _) dX9_takesWord_86 ?_
        exact hF (Or.inl hwo)
      · refine tt_il2 (q := 70) hc dX9_takesWord_69 rfl ?_
        refine tt_bipush (v := nI 12) (q := 72) hc (by decide) dX9_takesWord_70 rfl ?_
        first | (with_reducible refine chk2 ?_; refine tt_iceqN (t := 85) (q := 75) hc (by omega) (by omega) dX9_takesWord_72 rfl rfl (fun c_72 => ?_) (fun c_72 => ?_)) | refine tt_iceq (t := 85) (q := 75) hc dX9_takesWord_72 rfl rfl (fun c_72 => ?_) (fun c_72 => ?_)
        · refine tt_iconst (v := nI 0) (q := 86) hc rfl dX9_takesWord_85 rfl ?_
          refine tt_retz hX rfl (by first | decide | exact bI_01 _) dX9_takesWord_86 ?_
          exact hF (Or.inl hwo)
        · omega
    | some v =>
      have hv := wo_lt hwo
      rw [hwo] at hwm
      dsimp only at hwm
      rw [hwm]
      have hsw := sw_lt hv
      have hss := sw_sw v
      have h11 : sw v = 11 ↔ v = 11 := by
        unfold sw
        by_cases h8 : v = 8
        · subst h8
          decide
        · by_cases h9 : v = 9
          · subst h9
            decide
          · rw [if_neg h8, if_neg h9]
      have hd : ∀ i, e1 ≤ i → i < e2 → 48 ≤ tx.getD i 0 ∧ tx.getD i 0 ≤ 57 := b3
      have hep : ¬ e1 = p := fun z => by
        rw [z, wo_same] at hwo
        cases hwo
      by_cases hg : e2 - e1 < fewN v ∨ mostN v < e2 - e1
      · have hg2 := hg
        refine tt_il1 (q := 62) hc dX9_takesWord_61 rfl ?_
        refine tt_al0 (q := 63) hc dX9_takesWord_62 rfl ?_
        refine tt_getI (q := 66) hc fl_X9_269 (by first | assumption | exact ⟨by decide, _, rfl, _, rfl⟩) dX9_takesWord_63 rfl ?_
        rw [hat]
        first | (with_reducible refine chk2 ?_; refine tt_iceqN (t := 85) (q := 69) hc (by omega) (by omega) dX9_takesWord_66 rfl rfl (fun c_66 => ?_) (fun c_66 => ?_)) | refine tt_iceq (t := 85) (q := 69) hc dX9_takesWord_66 rfl rfl (fun c_66 => ?_) (fun c_66 => ?_)
        · exact absurd c_66 hep
        · refine tt_il2 (q := 70) hc dX9_takesWord_69 rfl ?_
          refine tt_bipush (v := nI 12) (q := 72) hc (by decide) dX9_takesWord_70 rfl ?_
          first | (with_reducible refine chk2 ?_; refine tt_iceqN (t := 85) (q := 75) hc (by omega) (by omega) dX9_takesWord_72 rfl rfl (fun c_72 => ?_) (fun c_72 => ?_)) | refine tt_iceq (t := 85) (q := 75) hc dX9_takesWord_72 rfl rfl (fun c_72 => ?_) (fun c_72 => ?_)
          · omega
          · refine tt_il2 (q := 76) hc dX9_takesWord_75 rfl ?_
            refine tt_il3 (q := 77) hc dX9_takesWord_76 rfl ?_
            refine tt_il1 (q := 78) hc dX9_takesWord_77 rfl ?_
            first | (with_reducible refine chk2 ?_; refine tt_isubN (q := 79) hc (by omega) dX9_takesWord_78 rfl ?_) | refine tt_isub (q := 79) hc dX9_takesWord_78 rfl ?_
            refine tt_cS2 (q := 82) (d' := 1) hc (by first | decide | omega) kmX9_areDigits ml_X9_295 (Nat.le_of_ble_eq_true rfl) dX9_takesWord_79 rfl ?_
            refine c_X9_areDigits hsw (by omega) ?_
            rw [hss, decide_eq_false (by omega)]
            dsimp only [Option.toList, List.nil_append, List.cons_append]
            first | (with_reducible refine chkb ?_; refine tt_ifneB (t := 87) (q := 85) hc dX9_takesWord_82 rfl rfl (fun c_82 => ?_) (fun c_82 => ?_)) | (with_reducible refine chk1 ?_; refine tt_ifneN (t := 87) (q := 85) hc (by omega) dX9_takesWord_82 rfl rfl (fun c_82 => ?_) (fun c_82 => ?_)) | refine tt_ifne (t := 87) (q := 85) hc dX9_takesWord_82 rfl rfl (fun c_82 => ?_) (fun c_82 => ?_)
            · cases c_82
            · refine tt_iconst (v := nI 0) (q := 86) hc rfl dX9_takesWord_85 rfl ?_
              refine tt_retz hX rfl (by first | decide | exact bI_01 _) dX9_takesWord_86 ?_
              exact hF (Or.inr ⟨v, hwo, hg⟩)
      · have hT := hT v hwo hg
        have G : ∀ (x : Int32), x = numV tx (v, e1, e2) → TT X 126 [.ref 24, .int (nI e1), .int (nI (sw v)), .int (nI e2)] [.int x, .int (nI pre.length), .ref 25] (mset μ 39 (upd (μ 39) pre.length (nI (sw v)))) := by
          intro x hx
          refine tt_iast (q := 127) hc (by first | assumption | exact ⟨by decide, rfl, by decide⟩) (by omega) dX9_takesWord_126 rfl ?_
          refine tt_al0 (q := 128) hc dX9_takesWord_127 rfl ?_
          refine tt_dup (q := 129) hc rfl dX9_takesWord_128 rfl ?_
          refine tt_getI (q := 132) hc fl_X9_298 (by first | assumption | exact ⟨by decide, _, rfl, _, rfl⟩) dX9_takesWord_129 rfl ?_
          rw [mset_ne (by decide), mset_ne (by decide), e21]
          refine tt_iconst (v := nI 1) (q := 133) hc rfl dX9_takesWord_132 rfl ?_
          first | (with_reducible refine chk2 ?_; refine tt_iaddN (q := 134) hc dX9_takesWord_133 rfl ?_) | refine tt_iadd (q := 134) hc dX9_takesWord_133 rfl ?_
          refine tt_putI (q := 137) hc fp_X9_298 (by first | assumption | exact ⟨by decide, _, rfl, _, rfl⟩) dX9_takesWord_134 rfl ?_
          refine tt_al0 (q := 138) hc dX9_takesWord_137 rfl ?_
          refine tt_il3 (q := 139) hc dX9_takesWord_138 rfl ?_
          refine tt_putI (q := 142) hc fp_X9_269 (by first | assumption | exact ⟨by decide, _, rfl, _, rfl⟩) dX9_takesWord_139 rfl ?_
          refine tt_iconst (v := nI 1) (q := 143) hc rfl dX9_takesWord_142 rfl ?_
          refine tt_retz hX rfl (by first | decide | exact bI_01 _) dX9_takesWord_143 ?_
          refine hT _ ((((mg.fr (frm.set.mono (by simp)) (by decide)).tr (mg.fr (frm.set.mono (by simp)) (by decide))).tr (mg.own (by decide))).tr (mg.own (by decide))) (hW.push ?_ ?_ ?_) ?_
          · rw [mset_eq, pk_un (by decide), mset_eq, pk_us]
          · rw [mset_ne (by decide), mset_ne (by decide), mset_ne (by decide), mset_eq]
          · rw [mset_ne (by decide), mset_ne (by decide), mset_eq, mset_ne (by decide), hx]
          · rw [mset_eq, pk_us]
        refine tt_il1 (q := 62) hc dX9_takesWord_61 rfl ?_
        refine tt_al0 (q := 63) hc dX9_takesWord_62 rfl ?_
        refine tt_getI (q := 66) hc fl_X9_269 (by first | assumption | exact ⟨by decide, _, rfl, _, rfl⟩) dX9_takesWord_63 rfl ?_
        rw [hat]
        first | (with_reducible refine chk2 ?_; refine tt_iceqN (t := 85) (q := 69) hc (by omega) (by omega) dX9_takesWord_66 rfl rfl (fun c_66 => ?_) (fun c_66 => ?_)) | refine tt_iceq (t := 85) (q := 69) hc dX9_takesWord_66 rfl rfl (fun c_66 => ?_) (fun c_66 => ?_)
        · exact absurd c_66 hep
        · refine tt_il2 (q := 70) hc dX9_takesWord_69 rfl ?_
          refine tt_bipush (v := nI 12) (q := 72) hc (by decide) dX9_takesWord_70 rfl ?_
          first | (with_reducible refine chk2 ?_; refine tt_iceqN (t := 85) (q := 75) hc (by omega) (by omega) dX9_takesWord_72 rfl rfl (fun c_72 => ?_) (fun c_72 => ?_)) | refine tt_iceq (t := 85) (q := 75) hc dX9_takesWord_72 rfl rfl (fun c_72 => ?_) (fun c_72 => ?_)
          · omega
          · refine tt_il2 (q := 76) hc dX9_takesWord_75 rfl ?_
            refine tt_il3 (q := 77) hc dX9_takesWord_76 rfl ?_
            refine tt_il1 (q := 78) hc dX9_takesWord_77 rfl ?_
            first | (with_reducible refine chk2 ?_; refine tt_isubN (q := 79) hc (by omega) dX9_takesWord_78 rfl ?_) | refine tt_isub (q := 79) hc dX9_takesWord_78 rfl ?_
            refine tt_cS2 (q := 82) (d' := 1) hc (by first | decide | omega) kmX9_areDigits ml_X9_295 (Nat.le_of_ble_eq_true rfl) dX9_takesWord_79 rfl ?_
            refine c_X9_areDigits hsw (by omega) ?_
            rw [hss, decide_eq_true (by omega)]
            dsimp only [Option.toList, List.nil_append, List.cons_append]
            first | (with_reducible refine chkb ?_; refine tt_ifneB (t := 87) (q := 85) hc dX9_takesWord_82 rfl rfl (fun c_82 => ?_) (fun c_82 => ?_)) | (with_reducible refine chk1 ?_; refine tt_ifneN (t := 87) (q := 85) hc (by omega) dX9_takesWord_82 rfl rfl (fun c_82 => ?_) (fun c_82 => ?_)) | refine tt_ifne (t := 87) (q := 85) hc dX9_takesWord_82 rfl rfl (fun c_82 => ?_) (fun c_82 => ?_)
            · refine tt_al0 (q := 88) hc dX9_takesWord_87 rfl ?_
              refine tt_getR (q := 91) hc fl_X9_67 (by first | assumption | exact ⟨by decide, _, rfl, rfl⟩) dX9_takesWord_88 rfl ?_
              refine tt_al0 (q := 92) hc dX9_takesWord_91 rfl ?_
              refine tt_getI (q := 95) hc fl_X9_298 (by first | assumption | exact ⟨by decide, _, rfl, _, rfl⟩) dX9_takesWord_92 rfl ?_
              rw [e21]
              refine tt_il2 (q := 96) hc dX9_takesWord_95 rfl ?_
              refine tt_iast (q := 97) hc (by first | assumption | exact ⟨by decide, rfl, by decide⟩) (by omega) dX9_takesWord_96 rfl ?_
              refine tt_al0 (q := 98) hc dX9_takesWord_97 rfl ?_
              refine tt_getR (q := 101) hc fl_X9_70 (by first | assumption | exact ⟨by decide, _, rfl, rfl⟩) dX9_takesWord_98 rfl ?_
              refine tt_al0 (q := 102) hc dX9_takesWord_101 rfl ?_
              refine tt_getI (q := 105) hc fl_X9_298 (by first | assumption | exact ⟨by decide, _, rfl, _, rfl⟩) dX9_takesWord_102 rfl ?_
              rw [mset_ne (by decide), e21]
              refine tt_il2 (q := 106) hc dX9_takesWord_105 rfl ?_
              refine tt_bipush (v := nI 11) (q := 108) hc (by decide) dX9_takesWord_106 rfl ?_
              first | (with_reducible refine chk2 ?_; refine tt_icneN (t := 120) (q := 111) hc (by omega) (by omega) dX9_takesWord_108 rfl rfl (fun c_108 => ?_) (fun c_108 => ?_)) | refine tt_icne (t := 120) (q := 111) hc dX9_takesWord_108 rfl rfl (fun c_108 => ?_) (fun c_108 => ?_)
              · refine tt_al0 (q := 121) hc dX9_takesWord_120 rfl ?_
                refine tt_il1 (q := 122) hc dX9_takesWord_121 rfl ?_
                refine tt_il3 (q := 123) hc dX9_takesWord_122 rfl ?_
                refine tt_cV2 (q := 126) (d' := 0) (ci := 9) hc (by first | decide | omega) kmX9_numberOf ml_X9_304 (by first | assumption | exact ⟨by decide, _, rfl⟩) rfl (Nat.le_of_ble_eq_true rfl) dX9_takesWord_123 rfl ?_
                refine c_X9_numberOf (tx := tx) ⟨hX6.1, by rw [mset_ne (by decide)]; exact hX6.2.1, by rw [mset_ne (by decide)]; exact hX6.2.2.1, hX6.2.2.2⟩ b2.1 (by omega) hd ?_
                dsimp only [Option.toList, List.nil_append, List.cons_append]
                first
                | (have z : sw v = 11 := c_108
                   exact G _ (by rw [numV, if_pos (h11.mp z)]))
                | (have z : ¬ sw v = 11 := c_108
                   exact G _ (by rw [numV, if_neg (fun y => z (h11.mpr y))]))
              · refine tt_al0 (q := 112) hc dX9_takesWord_111 rfl ?_
                refine tt_il1 (q := 113) hc dX9_takesWord_112 rfl ?_
                refine tt_il3 (q := 114) hc dX9_takesWord_113 rfl ?_
                refine tt_cV2 (q := 117) (d' := 0) (ci := 9) hc (by first | decide | omega) kmX9_setOf ml_X9_301 (by first | assumption | exact ⟨by decide, _, rfl⟩) rfl (Nat.le_of_ble_eq_true rfl) dX9_takesWord_114 rfl ?_
                refine c_X9_setOf (tx := tx) ⟨hX6.1, by rw [mset_ne (by decide)]; exact hX6.2.1, by rw [mset_ne (by decide)]; exact hX6.2.2.1, hX6.2.2.2⟩ b2.1 (by omega) hd ?_
                dsimp only [Option.toList, List.nil_append, List.cons_append]
                refine tt_goto (t := 126) hc dX9_takesWord_117 rfl ?_
                first
                | (have z : sw v = 11 := c_108
                   exact G _ (by rw [numV, if_pos (h11.mp z)]))
                | (have z : ¬ sw v = 11 := c_108
                   exact G _ (by rw [numV, if_neg (fun y => z (h11.mpr y))]))
            · cases c_82
  refine tt_al0 (q := 1) hc dX9_takesWord_0 rfl ?_
  refine tt_getI (q := 4) hc fl_X9_269 (by first | assumption | exact ⟨by decide, _, rfl, _, rfl⟩) dX9_takesWord_1 rfl ?_
  rw [hat]
  refine tt_is1 (q := 5) hc dX9_takesWord_4 rfl (by decide) ?_
  refine A1 (tx.length - p) p _ _ (by omega) (fun w2 w3 => ?_)
  rw [← bh]
  refine tt_iconst (v := nI 0) (q := 20) hc rfl dX9_takesWord_19 rfl ?_
  refine tt_is2 (q := 21) hc dX9_takesWord_20 rfl (by decide) ?_
  refine A2 (bh tx 97 122 p) b1.1 (by omega) 12 0 _ rfl (fun w3 => ?_)
  refine tt_il1 (q := 46) hc dX9_takesWord_45 rfl ?_
  refine tt_is3 (q := 47) hc dX9_takesWord_46 rfl (by decide) ?_
  refine A3 _ _ (tx.length - bh tx 97 122 p) (bh tx 97 122 p) (by omega) ?_
  rw [← bh]
  exact A4
