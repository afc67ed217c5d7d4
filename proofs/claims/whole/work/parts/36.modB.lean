/-! THE MODEL: its state; counting -/
def mL : List Nat := List.range' 24 16 ++ List.range' 72 40
theorem mL_in {i : Nat} (h : (24 ≤ i ∧ i < 40) ∨ (72 ≤ i ∧ i < 112)) : i ∈ mL := by
  unfold mL
  rw [List.mem_append, List.mem_range'_1, List.mem_range'_1]
  omega
theorem mf.ml {l : List Nat} {μ μ' : Mem} (h : mf l μ μ') (hl : l.all (fun i => decide ((24 ≤ i ∧ i < 40) ∨ (72 ≤ i ∧ i < 112))) = true) : frm mL μ μ' := fun i hi => h.1 i (fun z => hi (mL_in (by have := List.all_eq_true.mp hl i z; simpa using this))) (fun e => hi (mL_in (by omega)))
theorem frm.ml {l : List Nat} {μ μ' : Mem} (h : frm l μ μ') (hl : l.all (fun i => decide ((24 ≤ i ∧ i < 40) ∨ (72 ≤ i ∧ i < 112))) = true) : frm mL μ μ' := h.mono (fun i hi => mL_in (by have := List.all_eq_true.mp hl i hi; simpa using this))
/-- the past in the model -/
def MP (μ : Mem) (K : Nat) (hs : List HP) : Prop := hs.length ≤ 8 ∧ μ 24 6 = nI hs.length ∧ ∀ i C, hs[i]? = some C → BA μ (79 + (hs.length - 1 - i)) C ∧ HOK K C
def MK (μ : Mem) (ks : List (Nat × HP)) : Prop := ks.length ≤ 4 ∧ μ 24 15 = nI ks.length ∧ (∀ i q, ks[i]? = some q → BA μ (91 + i) q.2 ∧ μ 35 i = nI q.1 ∧ HOK q.1 q.2)  ∧ ∀ j, j < 4 → ∃ C, BA μ (91 + j) C
def MI (μ : Mem) (im : Option (Nat × HP × List (Nat × HP))) : Prop := match im with
  | none => μ 24 28 = 0
  | some (K, B, k') => μ 24 28 = 1 ∧ μ 24 29 = nI K ∧ HOK K B ∧ BA μ 95 B ∧ k'.length ≤ 4 ∧ μ 24 30 = nI k'.length ∧ (∀ i q, k'[i]? = some q → BA μ (96 + i) q.2 ∧ μ 76 i = nI q.1 ∧ HOK q.1 q.2) ∧ ∀ j, j < 4 → ∃ C, BA μ (96 + j) C
def ML (μ : Mem) (ls : Nat → Option (List Int32)) : Prop := ∀ t, t < 4 → match ls t with
  | none => μ 73 t = -1
  | some xs => xs.length ≤ 40 ∧ μ 73 t = nI xs.length ∧ ∀ i x, xs[i]? = some x → μ (108 + t) i = x
def MX (μ : Mem) (tx : List Nat) : Prop := tx.length ≤ 120 ∧ μ 24 19 = nI tx.length ∧ (∀ i b, tx[i]? = some b → μ 38 i = nI b) ∧ ∀ b ∈ tx, b < 128
def MY (μ : Mem) (pp : List Nat) : Prop := pp.length ≤ 1280 ∧ μ 24 25 = nI pp.length ∧ ∀ i b, pp[i]? = some b → μ 72 i = nI b
def MR (μ : Mem) (S : ST) : Prop := match S with
  | (K, B, hs, ks, im, ls, tx, pp) => (HOK K B ∧ μ 24 0 = nI K ∧ BA μ 77 B) ∧ MP μ K hs ∧ MK μ ks ∧ MI μ im ∧ ML μ ls ∧ MX μ tx ∧ MY μ pp
/-- the model's cells for work alone -/
def mwL : List Nat := [25, 26, 28, 29, 30, 31, 32, 36, 37, 39, 78, 87, 88, 89, 90, 100, 101, 102, 103, 104, 105, 106, 107]
theorem MP.wk {μ μ' : Mem} {K : Nat} {hs : List HP} {l : List Nat} (h : MP μ K hs) (hf : mf l μ μ') (hl : ∀ i, i ∈ l → i < 79 ∨ 87 ≤ i) : MP μ' K hs := ⟨h.1, by rw [hf.2 6 (by decide)]; exact h.2.1, fun i C hC => by
  have h1 := h.1
  have h2 := (List.getElem?_eq_some_iff.mp hC).1
  exact ⟨(h.2.2 i C hC).1.mf hf (fun z => by have := hl _ z; omega) (by omega), (h.2.2 i C hC).2⟩⟩
theorem MK.wk {μ μ' : Mem} {ks : List (Nat × HP)} {l : List Nat} (h : MK μ ks) (hf : mf l μ μ') (hl : ∀ i, i ∈ l → (i < 91 ∨ 95 ≤ i) ∧ i ≠ 35) : MK μ' ks := ⟨h.1, by rw [hf.2 15 (by decide)]; exact h.2.1, fun i q hq => by
  have h1 := h.1
  have h2 := (List.getElem?_eq_some_iff.mp hq).1
  obtain ⟨g1, g2, g3⟩ := h.2.2.1 i q hq
  exact ⟨g1.mf hf (fun z => by have := hl _ z; omega) (by omega), by rw [hf.1 35 (fun z => (hl _ z).2 rfl) (by decide)]; exact g2, g3⟩, fun j hj => (h.2.2.2 j hj).imp (fun C hC => hC.mf hf (fun z => by have := hl _ z; omega) (by omega))⟩
theorem MI.wk {μ μ' : Mem} {im : Option (Nat × HP × List (Nat × HP))} {l : List Nat} (h : MI μ im) (hf : mf l μ μ') (hl : ∀ i, i ∈ l → (i < 95 ∨ 100 ≤ i) ∧ i ≠ 76) : MI μ' im := by
  match im, h with
  | none, h => exact (hf.2 28 (by decide)).trans h
  | some (K, B, k'), h =>
    obtain ⟨g1, g2, g3, g4, g5, g6, g7, g8⟩ := h
    refine ⟨(hf.2 28 (by decide)).trans g1, (hf.2 29 (by decide)).trans g2, g3, g4.mf hf (fun z => by have := hl _ z; omega) (by omega), g5, (hf.2 30 (by decide)).trans g6, fun i q hq => ?_, fun j hj => (g8 j hj).imp (fun C hC => hC.mf hf (fun z => by have := hl _ z; omega) (by omega))⟩
    have h2 := (List.getElem?_eq_some_iff.mp hq).1
    obtain ⟨j1, j2, j3⟩ := g7 i q hq
    exact ⟨j1.mf hf (fun z => by have := hl _ z; omega) (by omega), by rw [hf.1 76 (fun z => (hl _ z).2 rfl) (by decide)]; exact j2, j3⟩
theorem ML.wk {μ μ' : Mem} {ls : Nat → Option (List Int32)} {l : List Nat} (h : ML μ ls) (hf : mf l μ μ') (hl : ∀ i, i ∈ l → i < 108 ∧ i ≠ 73) : ML μ' ls := by
  intro t ht
  have := h t ht
  rw [hf.1 73 (fun z => (hl _ z).2 rfl) (by decide), hf.1 (108 + t) (fun z => by have := hl _ z; omega) (by omega)]
  exact this
theorem MX.wk {μ μ' : Mem} {tx : List Nat} {l : List Nat} (h : MX μ tx) (hf : mf l μ μ') (hl : 38 ∉ l) : MX μ' tx := ⟨h.1, (hf.2 19 (by decide)).trans h.2.1, by rw [hf.1 38 hl (by decide)]; exact h.2.2.1, h.2.2.2⟩
theorem MY.wk {μ μ' : Mem} {pp : List Nat} {l : List Nat} (h : MY μ pp) (hf : mf l μ μ') (hl : 72 ∉ l) : MY μ' pp := ⟨h.1, (hf.2 25 (by decide)).trans h.2.1, by rw [hf.1 72 hl (by decide)]; exact h.2.2⟩
theorem MR.wk {μ μ' : Mem} {S : ST} {l : List Nat} (h : MR μ S) (hf : mf l μ μ') (hl : l.all (fun i => decide (i ∈ mwL)) = true) : MR μ' S := by
  obtain ⟨K, B, hs, ks, im, ls, tx, pp⟩ := S
  obtain ⟨⟨a0, a1, a2⟩, a3, a4, a5, a6, a7, a8⟩ := h
  have hf := hf.mono (l' := mwL) (fun i hi => by have := List.all_eq_true.mp hl i hi; simpa using this)
  exact ⟨⟨a0, (hf.2 0 (by decide)).trans a1, a2.mf hf (by decide) (by decide)⟩, a3.wk hf (by decide), a4.wk hf (by decide), a5.wk hf (by decide), a6.wk hf (by decide), a7.wk hf (by decide), a8.wk hf (by decide)⟩
theorem h0no {K : Nat} {B : HP} (hK : HOK K B) : B 0 = false := by
  cases h : B 0
  · rfl
  · have h1 := hK.2 0 h
    have h2 := hK.1
    have h3 : pop 0 = 0 := by decide
    omega
theorem tot1 {K : Nat} {B : HP} (hK : HOK K B) : cnt B 255 1 = tot B := by
  have e : tot B = cnt B 1 0 + cnt B 255 1 := cnt_add B 1 255 0
  rw [e, show cnt B 1 0 = 0 by simp [cnt, h0no hK], Nat.zero_add]
set_option maxHeartbeats 4000000 in
theorem c_X9_bodiesOf {l : Launch} {a K : Nat} {B : HP} {μ : Mem} {Q : Option Value → Mem → Prop} (hA : HA a 1 256) (hK : HOK K B) (hB : BA μ a B) (hQ : Q (some (.int (nI (tot B)))) μ) : CC l 0 mX9_bodiesOf [.ref a] μ Q := by
  refine CC.of (M := mX9_bodiesOf) (by decide +kernel) rfl (fun v h => by simp at h; subst h; rfl) (Nat.le_of_ble_eq_true rfl) (fun X hX => ?_)
  have hc := hX.cx
  have L : ∀ (n s m : Nat), s + n = 256 → m ≤ s → Q (some (.int (nI (m + cnt B n s)))) μ → TT X 4 [.ref a, .int (nI m), .int (nI s)] [] μ := by
    intro n
    induction n with
    | zero =>
      intro s m hs hm h
      refine tt_il2 (q := 5) hc dX9_bodiesOf_4 rfl ?_
      refine tt_sipush (v := nI 256) (q := 8) hc (by decide) dX9_bodiesOf_5 rfl ?_
      first | (with_reducible refine chk2 ?_; refine tt_icgeN (t := 26) (q := 11) hc (by omega) (by omega) dX9_bodiesOf_8 rfl rfl (fun c_8 => ?_) (fun c_8 => ?_)) | refine tt_icge (t := 26) (q := 11) hc dX9_bodiesOf_8 rfl rfl (fun c_8 => ?_) (fun c_8 => ?_)
      · refine tt_il1 (q := 27) hc dX9_bodiesOf_26 rfl ?_
        refine tt_reti hX rfl dX9_bodiesOf_27 ?_
        exact h
      · omega
    | succ n ih =>
      intro s m hs hm h
      rw [cnt] at h
      refine tt_il2 (q := 5) hc dX9_bodiesOf_4 rfl ?_
      refine tt_sipush (v := nI 256) (q := 8) hc (by decide) dX9_bodiesOf_5 rfl ?_
      first | (with_reducible refine chk2 ?_; refine tt_icgeN (t := 26) (q := 11) hc (by omega) (by omega) dX9_bodiesOf_8 rfl rfl (fun c_8 => ?_) (fun c_8 => ?_)) | refine tt_icge (t := 26) (q := 11) hc dX9_bodiesOf_8 rfl rfl (fun c_8 => ?_) (fun c_8 => ?_)
      · omega
      · refine tt_al0 (q := 12) hc dX9_bodiesOf_11 rfl ?_
        refine tt_il2 (q := 13) hc dX9_bodiesOf_12 rfl ?_
        refine tt_zald (q := 14) hc (by first | assumption | exact ⟨by decide, rfl, by decide⟩) (by omega) dX9_bodiesOf_13 rfl ?_
        rw [hB s (by omega)]
        first | (with_reducible refine chkb ?_; refine tt_ifeqB (t := 20) (q := 17) hc dX9_bodiesOf_14 rfl rfl (fun c_14 => ?_) (fun c_14 => ?_)) | (with_reducible refine chk1 ?_; refine tt_ifeqN (t := 20) (q := 17) hc (by omega) dX9_bodiesOf_14 rfl rfl (fun c_14 => ?_) (fun c_14 => ?_)) | refine tt_ifeq (t := 20) (q := 17) hc dX9_bodiesOf_14 rfl rfl (fun c_14 => ?_) (fun c_14 => ?_)
        · first | refine tt_inc2 (q := 23) hc dX9_bodiesOf_20 rfl (by decide) (incN _) ?_ | refine tt_inc2 (q := 23) hc dX9_bodiesOf_20 rfl (by decide) rfl ?_
          refine tt_goto (t := 4) hc dX9_bodiesOf_23 rfl ?_
          first
          | (rw [if_neg (by rw [c_14]; exact Bool.false_ne_true), Nat.zero_add] at h; exact ih (s + 1) m (by omega) (by omega) h)
          | (rw [if_pos c_14, ← Nat.add_assoc] at h; exact ih (s + 1) (m + 1) (by omega) (by omega) h)
        · first | refine tt_inc1 (q := 20) hc dX9_bodiesOf_17 rfl (by decide) (incN _) ?_ | refine tt_inc1 (q := 20) hc dX9_bodiesOf_17 rfl (by decide) rfl ?_
          first | refine tt_inc2 (q := 23) hc dX9_bodiesOf_20 rfl (by decide) (incN _) ?_ | refine tt_inc2 (q := 23) hc dX9_bodiesOf_20 rfl (by decide) rfl ?_
          refine tt_goto (t := 4) hc dX9_bodiesOf_23 rfl ?_
          first
          | (rw [if_neg (by rw [c_14]; exact Bool.false_ne_true), Nat.zero_add] at h; exact ih (s + 1) m (by omega) (by omega) h)
          | (rw [if_pos c_14, ← Nat.add_assoc] at h; exact ih (s + 1) (m + 1) (by omega) (by omega) h)
  refine tt_iconst (v := nI 0) (q := 1) hc rfl dX9_bodiesOf_0 rfl ?_
  refine tt_is1 (q := 2) hc dX9_bodiesOf_1 rfl (by decide) ?_
  refine tt_iconst (v := nI 1) (q := 3) hc rfl dX9_bodiesOf_2 rfl ?_
  refine tt_is2 (q := 4) hc dX9_bodiesOf_3 rfl (by decide) ?_
  exact L 255 1 0 rfl (Nat.zero_le _) (by rw [Nat.zero_add, tot1 hK]; exact hQ)
theorem ba_l {a b : Bool} (h : a = false) : ¬ (a && b) = true := by rw [h]; simp
theorem ba_r {a : Bool} {P : Prop} [Decidable P] (h : ¬ P) : ¬ (a && decide P) = true := by simp [h]
theorem ba_t {a : Bool} {P : Prop} [Decidable P] (h : a = true) (h2 : P) : (a && decide P) = true := by simp [h, h2]
theorem wal_1 {K s : Nat} {B : HP} (h : ¬ pop s = K - 1) : wal K B s = false := by simp [wal, h]
theorem wal_2 {K s : Nat} {B : HP} (h : ¬ cW B s = 1) : wal K B s = false := by simp [wal, h]
theorem wal_3 {K s : Nat} {B : HP} (h : pop s = K - 1) (h2 : cW B s = 1) : wal K B s = true := by simp [wal, h, h2]
theorem lays_m {μ : Mem} {a a0 : Nat} {B : HP} (h : BA μ a0 B) : BA (mset μ a (va_cpy (μ a0) (μ a) 0 0 256)) a B := fun s hs => by
  rw [mset_eq, pk_cpy_in (Nat.zero_le s) (by omega), Nat.zero_add, Nat.sub_zero]
  exact h s hs
set_option maxHeartbeats 4000000 in
theorem c_X9_lays {l : Launch} {a0 a : Nat} {B : HP} {μ : Mem} {Q : Option Value → Mem → Prop} (hA0 : HA a0 1 256) (hA : HA a 1 256) (hB : BA μ a0 B) (hQ : ∀ μ', frm [a] μ μ' → BA μ' a B → Q none μ') : CC l 1 mX9_lays [.ref a0, .ref a] μ Q := by
  refine CC.of (M := mX9_lays) (by decide +kernel) rfl (fun v h => by simp at h; rcases h with rfl | rfl <;> rfl) (Nat.le_of_ble_eq_true rfl) (fun X hX => ?_)
  have hc := hX.cx
  refine tt_al0 (q := 1) hc dX9_lays_0 rfl ?_
  refine tt_iconst (v := nI 0) (q := 2) hc rfl dX9_lays_1 rfl ?_
  refine tt_al1 (q := 3) hc dX9_lays_2 rfl ?_
  refine tt_iconst (v := nI 0) (q := 4) hc rfl dX9_lays_3 rfl ?_
  refine tt_sipush (v := nI 256) (q := 7) hc (by decide) dX9_lays_4 rfl ?_
  refine tt_acopy (q := 10) hc (by decide) ac_X9_101 hA0 hA rfl rfl (by omega) (by omega) (fun i hi => by rw [Nat.zero_add, hB i hi]; cases B i <;> rfl) rfl dX9_lays_7 rfl ?_
  refine tt_retv hX rfl dX9_lays_10 ?_
  exact hQ _ frm.set (lays_m hB)
theorem FA.at {μ : Mem} {B : HP} (h : FA μ B) {s : Nat} (h0 : 0 < s) (hs : s < 256) : μ 78 s = bI (decide (0 < cW B s)) := by
  rw [h.1 s hs]
  simp [h0]
set_option maxHeartbeats 4000000 in
theorem c_X9_facesOf {l : Launch} {j : Nat} {B : HP} {μ : Mem} {Q : Option Value → Mem → Prop} (hF : FA μ B) (hj : j < 256) (hQ : Q (some (.int (nI (fcs B j)))) μ) : CC l 2 mX9_facesOf [.ref 24, .int (nI j)] μ Q := by
  refine CC.of (M := mX9_facesOf) (by decide +kernel) rfl (fun v h => by simp at h; rcases h with rfl | rfl <;> rfl) (Nat.le_of_ble_eq_true rfl) (fun X hX => ?_)
  have hc := hX.cx
  have a78 := HA78
  rw [fcs] at hQ
  have L : ∀ (n s m : Nat), s + n = 256 → 0 < s → m ≤ s → Q (some (.int (nI (m + cnt (fun s => decide (0 < cW B s) && decide (pop s = j)) n s)))) μ → TT X 4 [.ref 24, .int (nI j), .int (nI m), .int (nI s)] [] μ := by
    intro n
    induction n with
    | zero =>
      intro s m hs h0 hm h
      refine tt_il3 (q := 5) hc dX9_facesOf_4 rfl ?_
      refine tt_sipush (v := nI 256) (q := 8) hc (by decide) dX9_facesOf_5 rfl ?_
      first | (with_reducible refine chk2 ?_; refine tt_icgeN (t := 37) (q := 11) hc (by omega) (by omega) dX9_facesOf_8 rfl rfl (fun c_8 => ?_) (fun c_8 => ?_)) | refine tt_icge (t := 37) (q := 11) hc dX9_facesOf_8 rfl rfl (fun c_8 => ?_) (fun c_8 => ?_)
      · refine tt_il2 (q := 38) hc dX9_facesOf_37 rfl ?_
        refine tt_reti hX rfl dX9_facesOf_38 ?_
        exact h
      · omega
    | succ n ih =>
      intro s m hs h0 hm h
      have hp := pop_le s (by omega)
      rw [cnt] at h
      refine tt_il3 (q := 5) hc dX9_facesOf_4 rfl ?_
      refine tt_sipush (v := nI 256) (q := 8) hc (by decide) dX9_facesOf_5 rfl ?_
      first | (with_reducible refine chk2 ?_; refine tt_icgeN (t := 37) (q := 11) hc (by omega) (by omega) dX9_facesOf_8 rfl rfl (fun c_8 => ?_) (fun c_8 => ?_)) | refine tt_icge (t := 37) (q := 11) hc dX9_facesOf_8 rfl rfl (fun c_8 => ?_) (fun c_8 => ?_)
      · omega
      · refine tt_al0 (q := 12) hc dX9_facesOf_11 rfl ?_
        refine tt_getR (q := 15) hc fl_X9_19 (by first | assumption | exact ⟨by decide, _, rfl, rfl⟩) dX9_facesOf_12 rfl ?_
        refine tt_il3 (q := 16) hc dX9_facesOf_15 rfl ?_
        refine tt_zald (q := 17) hc (by first | assumption | exact ⟨by decide, rfl, by decide⟩) (by omega) dX9_facesOf_16 rfl ?_
        rw [hF.at h0 (by omega)]
        first | (with_reducible refine chkb ?_; refine tt_ifeqB (t := 31) (q := 20) hc dX9_facesOf_17 rfl rfl (fun c_17 => ?_) (fun c_17 => ?_)) | (with_reducible refine chk1 ?_; refine tt_ifeqN (t := 31) (q := 20) hc (by omega) dX9_facesOf_17 rfl rfl (fun c_17 => ?_) (fun c_17 => ?_)) | refine tt_ifeq (t := 31) (q := 20) hc dX9_facesOf_17 rfl rfl (fun c_17 => ?_) (fun c_17 => ?_)
        · first | refine tt_inc3 (q := 34) hc dX9_facesOf_31 rfl (by decide) (incN _) ?_ | refine tt_inc3 (q := 34) hc dX9_facesOf_31 rfl (by decide) rfl ?_
          refine tt_goto (t := 4) hc dX9_facesOf_34 rfl ?_
          first
          | (rw [if_neg (ba_l c_17), Nat.zero_add] at h; exact ih (s + 1) m (by omega) (by omega) (by omega) h)
          | (rw [if_neg (ba_r c_25), Nat.zero_add] at h; exact ih (s + 1) m (by omega) (by omega) (by omega) h)
          | (rw [if_pos (ba_t c_17 c_25), ← Nat.add_assoc] at h; exact ih (s + 1) (m + 1) (by omega) (by omega) (by omega) h)
        · refine tt_il3 (q := 21) hc dX9_facesOf_20 rfl ?_
          refine tt_cS1 (q := 24) (d' := 1) hc (by first | decide | omega) kmX9_many ml_X9_110 (Nat.le_of_ble_eq_true rfl) dX9_facesOf_21 rfl ?_
          refine c_X9_many ?_
          dsimp only [Option.toList, List.nil_append, List.cons_append]
          refine tt_il1 (q := 25) hc dX9_facesOf_24 rfl ?_
          first | (with_reducible refine chk2 ?_; refine tt_icneN (t := 31) (q := 28) hc (by omega) (by omega) dX9_facesOf_25 rfl rfl (fun c_25 => ?_) (fun c_25 => ?_)) | refine tt_icne (t := 31) (q := 28) hc dX9_facesOf_25 rfl rfl (fun c_25 => ?_) (fun c_25 => ?_)
          · first | refine tt_inc3 (q := 34) hc dX9_facesOf_31 rfl (by decide) (incN _) ?_ | refine tt_inc3 (q := 34) hc dX9_facesOf_31 rfl (by decide) rfl ?_
            refine tt_goto (t := 4) hc dX9_facesOf_34 rfl ?_
            first
            | (rw [if_neg (ba_l c_17), Nat.zero_add] at h; exact ih (s + 1) m (by omega) (by omega) (by omega) h)
            | (rw [if_neg (ba_r c_25), Nat.zero_add] at h; exact ih (s + 1) m (by omega) (by omega) (by omega) h)
            | (rw [if_pos (ba_t c_17 c_25), ← Nat.add_assoc] at h; exact ih (s + 1) (m + 1) (by omega) (by omega) (by omega) h)
          · first | refine tt_inc2 (q := 31) hc dX9_facesOf_28 rfl (by decide) (incN _) ?_ | refine tt_inc2 (q := 31) hc dX9_facesOf_28 rfl (by decide) rfl ?_
            first | refine tt_inc3 (q := 34) hc dX9_facesOf_31 rfl (by decide) (incN _) ?_ | refine tt_inc3 (q := 34) hc dX9_facesOf_31 rfl (by decide) rfl ?_
            refine tt_goto (t := 4) hc dX9_facesOf_34 rfl ?_
            first
            | (rw [if_neg (ba_l c_17), Nat.zero_add] at h; exact ih (s + 1) m (by omega) (by omega) (by omega) h)
            | (rw [if_neg (ba_r c_25), Nat.zero_add] at h; exact ih (s + 1) m (by omega) (by omega) (by omega) h)
            | (rw [if_pos (ba_t c_17 c_25), ← Nat.add_assoc] at h; exact ih (s + 1) (m + 1) (by omega) (by omega) (by omega) h)
  refine tt_iconst (v := nI 0) (q := 1) hc rfl dX9_facesOf_0 rfl ?_
  refine tt_is2 (q := 2) hc dX9_facesOf_1 rfl (by decide) ?_
  refine tt_iconst (v := nI 1) (q := 3) hc rfl dX9_facesOf_2 rfl ?_
  refine tt_is3 (q := 4) hc dX9_facesOf_3 rfl (by decide) ?_
  exact L 255 1 0 rfl (by decide) (Nat.zero_le _) (by rw [Nat.zero_add]; exact hQ)
set_option maxHeartbeats 4000000 in
theorem c_X9_isWall {l : Launch} {s K : Nat} {B : HP} {μ : Mem} {Q : Option Value → Mem → Prop} (hK : K = 3 ∨ K = 4) (hF : FA μ B) (h0 : 0 < s) (hs : s < 256) (hQ : Q (some (.int (bI (wal K B s)))) μ) : CC l 2 mX9_isWall [.ref 24, .int (nI s), .int (nI K)] μ Q := by
  refine CC.of (M := mX9_isWall) (by decide +kernel) rfl (fun v h => by simp at h; rcases h with rfl | rfl | rfl <;> rfl) (Nat.le_of_ble_eq_true rfl) (fun X hX => ?_)
  have hc := hX.cx
  have a26 := HA26
  have hp := pop_le s hs
  have hcw := cW_le B s
  refine tt_il1 (q := 1) hc dX9_isWall_0 rfl ?_
  refine tt_cS1 (q := 4) (d' := 1) hc (by first | decide | omega) kmX9_many ml_X9_110 (Nat.le_of_ble_eq_true rfl) dX9_isWall_1 rfl ?_
  refine c_X9_many ?_
  dsimp only [Option.toList, List.nil_append, List.cons_append]
  refine tt_il2 (q := 5) hc dX9_isWall_4 rfl ?_
  refine tt_iconst (v := nI 1) (q := 6) hc rfl dX9_isWall_5 rfl ?_
  first | (with_reducible refine chk2 ?_; refine tt_isubN (q := 7) hc (by omega) dX9_isWall_6 rfl ?_) | refine tt_isub (q := 7) hc dX9_isWall_6 rfl ?_
  first | (with_reducible refine chk2 ?_; refine tt_icneN (t := 24) (q := 10) hc (by omega) (by omega) dX9_isWall_7 rfl rfl (fun c_7 => ?_) (fun c_7 => ?_)) | refine tt_icne (t := 24) (q := 10) hc dX9_isWall_7 rfl rfl (fun c_7 => ?_) (fun c_7 => ?_)
  · refine tt_iconst (v := nI 0) (q := 25) hc rfl dX9_isWall_24 rfl ?_
    refine tt_retz hX rfl (by first | decide | exact bI_01 _) dX9_isWall_25 ?_
    first
    | exact qb0 hQ (wal_1 c_7)
    | exact qb0 hQ (wal_2 c_17)
    | exact qb1 hQ (wal_3 c_7 c_17)
  · refine tt_al0 (q := 11) hc dX9_isWall_10 rfl ?_
    refine tt_getR (q := 14) hc fl_X9_22 (by first | assumption | exact ⟨by decide, _, rfl, rfl⟩) dX9_isWall_11 rfl ?_
    refine tt_il1 (q := 15) hc dX9_isWall_14 rfl ?_
    refine tt_iald (q := 16) hc (by first | assumption | exact ⟨by decide, rfl, by decide⟩) (by omega) dX9_isWall_15 rfl ?_
    rw [hF.2.1 s h0 hs]
    refine tt_iconst (v := nI 1) (q := 17) hc rfl dX9_isWall_16 rfl ?_
    first | (with_reducible refine chk2 ?_; refine tt_icneN (t := 24) (q := 20) hc (by omega) (by omega) dX9_isWall_17 rfl rfl (fun c_17 => ?_) (fun c_17 => ?_)) | refine tt_icne (t := 24) (q := 20) hc dX9_isWall_17 rfl rfl (fun c_17 => ?_) (fun c_17 => ?_)
    · refine tt_iconst (v := nI 0) (q := 25) hc rfl dX9_isWall_24 rfl ?_
      refine tt_retz hX rfl (by first | decide | exact bI_01 _) dX9_isWall_25 ?_
      first
      | exact qb0 hQ (wal_1 c_7)
      | exact qb0 hQ (wal_2 c_17)
      | exact qb1 hQ (wal_3 c_7 c_17)
    · refine tt_iconst (v := nI 1) (q := 21) hc rfl dX9_isWall_20 rfl ?_
      refine tt_goto (t := 25) hc dX9_isWall_21 rfl ?_
      refine tt_retz hX rfl (by first | decide | exact bI_01 _) dX9_isWall_25 ?_
      first
      | exact qb0 hQ (wal_1 c_7)
      | exact qb0 hQ (wal_2 c_17)
      | exact qb1 hQ (wal_3 c_7 c_17)
set_option maxHeartbeats 4000000 in
theorem c_X9_walls {l : Launch} {K : Nat} {B : HP} {μ : Mem} {Q : Option Value → Mem → Prop} (hK : K = 3 ∨ K = 4) (hF : FA μ B) (hQ : Q (some (.int (nI (wls_ K B)))) μ) : CC l 3 mX9_walls [.ref 24, .int (nI K)] μ Q := by
  refine CC.of (M := mX9_walls) (by decide +kernel) rfl (fun v h => by simp at h; rcases h with rfl | rfl <;> rfl) (Nat.le_of_ble_eq_true rfl) (fun X hX => ?_)
  have hc := hX.cx
  rw [wls_] at hQ
  have L : ∀ (n s m : Nat), s + n = 256 → 0 < s → m ≤ s → Q (some (.int (nI (m + cnt (wal K B) n s)))) μ → TT X 4 [.ref 24, .int (nI K), .int (nI m), .int (nI s)] [] μ := by
    intro n
    induction n with
    | zero =>
      intro s m hs h0 hm h
      refine tt_il3 (q := 5) hc dX9_walls_4 rfl ?_
      refine tt_sipush (v := nI 256) (q := 8) hc (by decide) dX9_walls_5 rfl ?_
      first | (with_reducible refine chk2 ?_; refine tt_icgeN (t := 29) (q := 11) hc (by omega) (by omega) dX9_walls_8 rfl rfl (fun c_8 => ?_) (fun c_8 => ?_)) | refine tt_icge (t := 29) (q := 11) hc dX9_walls_8 rfl rfl (fun c_8 => ?_) (fun c_8 => ?_)
      · refine tt_il2 (q := 30) hc dX9_walls_29 rfl ?_
        refine tt_reti hX rfl dX9_walls_30 ?_
        exact h
      · omega
    | succ n ih =>
      intro s m hs h0 hm h
      rw [cnt] at h
      refine tt_il3 (q := 5) hc dX9_walls_4 rfl ?_
      refine tt_sipush (v := nI 256) (q := 8) hc (by decide) dX9_walls_5 rfl ?_
      first | (with_reducible refine chk2 ?_; refine tt_icgeN (t := 29) (q := 11) hc (by omega) (by omega) dX9_walls_8 rfl rfl (fun c_8 => ?_) (fun c_8 => ?_)) | refine tt_icge (t := 29) (q := 11) hc dX9_walls_8 rfl rfl (fun c_8 => ?_) (fun c_8 => ?_)
      · omega
      · refine tt_al0 (q := 12) hc dX9_walls_11 rfl ?_
        refine tt_il3 (q := 13) hc dX9_walls_12 rfl ?_
        refine tt_il1 (q := 14) hc dX9_walls_13 rfl ?_
        refine tt_cV2 (q := 17) (d' := 2) (ci := 9) hc (by first | decide | omega) kmX9_isWall ml_X9_116 (by first | assumption | exact ⟨by decide, _, rfl⟩) rfl (Nat.le_of_ble_eq_true rfl) dX9_walls_14 rfl ?_
        refine c_X9_isWall hK hF h0 (by omega) ?_
        dsimp only [Option.toList, List.nil_append, List.cons_append]
        first | (with_reducible refine chkb ?_; refine tt_ifeqB (t := 23) (q := 20) hc dX9_walls_17 rfl rfl (fun c_17 => ?_) (fun c_17 => ?_)) | (with_reducible refine chk1 ?_; refine tt_ifeqN (t := 23) (q := 20) hc (by omega) dX9_walls_17 rfl rfl (fun c_17 => ?_) (fun c_17 => ?_)) | refine tt_ifeq (t := 23) (q := 20) hc dX9_walls_17 rfl rfl (fun c_17 => ?_) (fun c_17 => ?_)
        · first | refine tt_inc3 (q := 26) hc dX9_walls_23 rfl (by decide) (incN _) ?_ | refine tt_inc3 (q := 26) hc dX9_walls_23 rfl (by decide) rfl ?_
          refine tt_goto (t := 4) hc dX9_walls_26 rfl ?_
          first
          | (rw [if_neg (by rw [c_17]; exact Bool.false_ne_true), Nat.zero_add] at h; exact ih (s + 1) m (by omega) (by omega) (by omega) h)
          | (rw [if_pos c_17, ← Nat.add_assoc] at h; exact ih (s + 1) (m + 1) (by omega) (by omega) (by omega) h)
        · first | refine tt_inc2 (q := 23) hc dX9_walls_20 rfl (by decide) (incN _) ?_ | refine tt_inc2 (q := 23) hc dX9_walls_20 rfl (by decide) rfl ?_
          first | refine tt_inc3 (q := 26) hc dX9_walls_23 rfl (by decide) (incN _) ?_ | refine tt_inc3 (q := 26) hc dX9_walls_23 rfl (by decide) rfl ?_
          refine tt_goto (t := 4) hc dX9_walls_26 rfl ?_
          first
          | (rw [if_neg (by rw [c_17]; exact Bool.false_ne_true), Nat.zero_add] at h; exact ih (s + 1) m (by omega) (by omega) (by omega) h)
          | (rw [if_pos c_17, ← Nat.add_assoc] at h; exact ih (s + 1) (m + 1) (by omega) (by omega) (by omega) h)
  refine tt_iconst (v := nI 0) (q := 1) hc rfl dX9_walls_0 rfl ?_
  refine tt_is2 (q := 2) hc dX9_walls_1 rfl (by decide) ?_
  refine tt_iconst (v := nI 1) (q := 3) hc rfl dX9_walls_2 rfl ?_
  refine tt_is3 (q := 4) hc dX9_walls_3 rfl (by decide) ?_
  exact L 255 1 0 rfl (by decide) (Nat.zero_le _) (by rw [Nat.zero_add]; exact hQ)
set_option maxHeartbeats 4000000 in
theorem c_X9_euler {l : Launch} {B : HP} {μ : Mem} {Q : Option Value → Mem → Prop} (hF : FA μ B) (hQ : Q (some (.int (euI B))) μ) : CC l 3 mX9_euler [.ref 24] μ Q := by
  refine CC.of (M := mX9_euler) (by decide +kernel) rfl (fun v h => by simp at h; subst h; rfl) (Nat.le_of_ble_eq_true rfl) (fun X hX => ?_)
  have hc := hX.cx
  refine tt_al0 (q := 1) hc dX9_euler_0 rfl ?_
  refine tt_iconst (v := nI 1) (q := 2) hc rfl dX9_euler_1 rfl ?_
  refine tt_cV1 (q := 5) (d' := 2) (ci := 9) hc (by first | decide | omega) kmX9_facesOf ml_X9_113 (by first | assumption | exact ⟨by decide, _, rfl⟩) rfl (Nat.le_of_ble_eq_true rfl) dX9_euler_2 rfl ?_
  refine c_X9_facesOf hF (by decide) ?_
  dsimp only [Option.toList, List.nil_append, List.cons_append]
  refine tt_al0 (q := 6) hc dX9_euler_5 rfl ?_
  refine tt_iconst (v := nI 2) (q := 7) hc rfl dX9_euler_6 rfl ?_
  refine tt_cV1 (q := 10) (d' := 2) (ci := 9) hc (by first | decide | omega) kmX9_facesOf ml_X9_113 (by first | assumption | exact ⟨by decide, _, rfl⟩) rfl (Nat.le_of_ble_eq_true rfl) dX9_euler_7 rfl ?_
  refine c_X9_facesOf hF (by decide) ?_
  dsimp only [Option.toList, List.nil_append, List.cons_append]
  refine tt_isub (q := 11) hc dX9_euler_10 rfl ?_
  refine tt_al0 (q := 12) hc dX9_euler_11 rfl ?_
  refine tt_iconst (v := nI 3) (q := 13) hc rfl dX9_euler_12 rfl ?_
  refine tt_cV1 (q := 16) (d' := 2) (ci := 9) hc (by first | decide | omega) kmX9_facesOf ml_X9_113 (by first | assumption | exact ⟨by decide, _, rfl⟩) rfl (Nat.le_of_ble_eq_true rfl) dX9_euler_13 rfl ?_
  refine c_X9_facesOf hF (by decide) ?_
  dsimp only [Option.toList, List.nil_append, List.cons_append]
  first | (with_reducible refine chk2 ?_; refine tt_iaddN (q := 17) hc dX9_euler_16 rfl ?_) | refine tt_iadd (q := 17) hc dX9_euler_16 rfl ?_
  refine tt_al0 (q := 18) hc dX9_euler_17 rfl ?_
  refine tt_iconst (v := nI 4) (q := 19) hc rfl dX9_euler_18 rfl ?_
  refine tt_cV1 (q := 22) (d' := 2) (ci := 9) hc (by first | decide | omega) kmX9_facesOf ml_X9_113 (by first | assumption | exact ⟨by decide, _, rfl⟩) rfl (Nat.le_of_ble_eq_true rfl) dX9_euler_19 rfl ?_
  refine c_X9_facesOf hF (by decide) ?_
  dsimp only [Option.toList, List.nil_append, List.cons_append]
  refine tt_isub (q := 23) hc dX9_euler_22 rfl ?_
  refine tt_reti hX rfl dX9_euler_23 ?_
  exact hQ
theorem rgt_f {K s : Nat} {B : HP} (h0 : 0 < s) (hs : s < 256) (h : pop s = K - 1) (h2 : 2 < cW B s) : rgt K B = false := by
  have : 0 < cnt (fun s => decide (2 < cW B s) && decide (pop s = K - 1)) 255 1 := (cnt_pos 255 1).mpr ⟨s, by omega, by omega, by simp [h, h2]⟩
  rw [rgt]
  exact decide_eq_false (by omega)
theorem rgt_t {K : Nat} {B : HP} (h : ∀ s, 0 < s → s < 256 → pop s = K - 1 → ¬ 2 < cW B s) : rgt K B = true := by
  rw [rgt]
  exact decide_eq_true (cnt_zero (fun t h1 h2 => by
    cases e : (decide (2 < cW B t) && decide (pop t = K - 1))
    · rfl
    · simp only [Bool.and_eq_true, decide_eq_true_eq] at e
      exact absurd e.1 (h t (by omega) (by omega) e.2)))
set_option maxHeartbeats 4000000 in
theorem c_X9_right {l : Launch} {K : Nat} {B : HP} {μ : Mem} {Q : Option Value → Mem → Prop} (hK : K = 3 ∨ K = 4) (hF : FA μ B) (hz : μ 24 0 = nI K) (hQ : Q (some (.int (bI (rgt K B)))) μ) : CC l 2 mX9_right [.ref 24] μ Q := by
  refine CC.of (M := mX9_right) (by decide +kernel) rfl (fun v h => by simp at h; subst h; rfl) (Nat.le_of_ble_eq_true rfl) (fun X hX => ?_)
  have hc := hX.cx
  have a26 := HA26
  have L : ∀ (n s : Nat), s + n = 256 → 0 < s → (∀ t, 0 < t → t < s → pop t = K - 1 → ¬ 2 < cW B t) → TT X 2 [.ref 24, .int (nI s)] [] μ := by
    intro n
    induction n with
    | zero =>
      intro s hs h0 hno
      refine tt_il1 (q := 3) hc dX9_right_2 rfl ?_
      refine tt_sipush (v := nI 256) (q := 6) hc (by decide) dX9_right_3 rfl ?_
      first | (with_reducible refine chk2 ?_; refine tt_icgeN (t := 40) (q := 9) hc (by omega) (by omega) dX9_right_6 rfl rfl (fun c_6 => ?_) (fun c_6 => ?_)) | refine tt_icge (t := 40) (q := 9) hc dX9_right_6 rfl rfl (fun c_6 => ?_) (fun c_6 => ?_)
      · refine tt_iconst (v := nI 1) (q := 41) hc rfl dX9_right_40 rfl ?_
        refine tt_reti hX rfl dX9_right_41 ?_
        exact qb1 hQ (rgt_t (fun t h1 h2 => hno t h1 (by omega)))
      · omega
    | succ n ih =>
      intro s hs h0 hno
      have hp := pop_le s (by omega)
      have hcw := cW_le B s
      refine tt_il1 (q := 3) hc dX9_right_2 rfl ?_
      refine tt_sipush (v := nI 256) (q := 6) hc (by decide) dX9_right_3 rfl ?_
      first | (with_reducible refine chk2 ?_; refine tt_icgeN (t := 40) (q := 9) hc (by omega) (by omega) dX9_right_6 rfl rfl (fun c_6 => ?_) (fun c_6 => ?_)) | refine tt_icge (t := 40) (q := 9) hc dX9_right_6 rfl rfl (fun c_6 => ?_) (fun c_6 => ?_)
      · omega
      · refine tt_il1 (q := 10) hc dX9_right_9 rfl ?_
        refine tt_cS1 (q := 13) (d' := 1) hc (by first | decide | omega) kmX9_many ml_X9_110 (Nat.le_of_ble_eq_true rfl) dX9_right_10 rfl ?_
        refine c_X9_many ?_
        dsimp only [Option.toList, List.nil_append, List.cons_append]
        refine tt_al0 (q := 14) hc dX9_right_13 rfl ?_
        refine tt_getI (q := 17) hc fl_X9_9 (by first | assumption | exact ⟨by decide, _, rfl, _, rfl⟩) dX9_right_14 rfl ?_
        rw [hz]
        refine tt_iconst (v := nI 1) (q := 18) hc rfl dX9_right_17 rfl ?_
        first | (with_reducible refine chk2 ?_; refine tt_isubN (q := 19) hc (by omega) dX9_right_18 rfl ?_) | refine tt_isub (q := 19) hc dX9_right_18 rfl ?_
        first | (with_reducible refine chk2 ?_; refine tt_icneN (t := 34) (q := 22) hc (by omega) (by omega) dX9_right_19 rfl rfl (fun c_19 => ?_) (fun c_19 => ?_)) | refine tt_icne (t := 34) (q := 22) hc dX9_right_19 rfl rfl (fun c_19 => ?_) (fun c_19 => ?_)
        · first | refine tt_inc1 (q := 37) hc dX9_right_34 rfl (by decide) (incN _) ?_ | refine tt_inc1 (q := 37) hc dX9_right_34 rfl (by decide) rfl ?_
          refine tt_goto (t := 2) hc dX9_right_37 rfl ?_
          first
          | exact ih (s + 1) (by omega) (by omega) (fun t h1 h2 h3 => (Nat.lt_succ_iff_lt_or_eq.mp h2).elim (fun z => hno t h1 z h3) (fun z => absurd (z ▸ h3) c_19))
          | exact ih (s + 1) (by omega) (by omega) (fun t h1 h2 h3 => (Nat.lt_succ_iff_lt_or_eq.mp h2).elim (fun z => hno t h1 z h3) (fun z => z ▸ Nat.not_lt.mpr c_29))
        · refine tt_al0 (q := 23) hc dX9_right_22 rfl ?_
          refine tt_getR (q := 26) hc fl_X9_22 (by first | assumption | exact ⟨by decide, _, rfl, rfl⟩) dX9_right_23 rfl ?_
          refine tt_il1 (q := 27) hc dX9_right_26 rfl ?_
          refine tt_iald (q := 28) hc (by first | assumption | exact ⟨by decide, rfl, by decide⟩) (by omega) dX9_right_27 rfl ?_
          rw [hF.2.1 s h0 (by omega)]
          refine tt_iconst (v := nI 2) (q := 29) hc rfl dX9_right_28 rfl ?_
          first | (with_reducible refine chk2 ?_; refine tt_icleN (t := 34) (q := 32) hc (by omega) (by omega) dX9_right_29 rfl rfl (fun c_29 => ?_) (fun c_29 => ?_)) | refine tt_icle (t := 34) (q := 32) hc dX9_right_29 rfl rfl (fun c_29 => ?_) (fun c_29 => ?_)
          · first | refine tt_inc1 (q := 37) hc dX9_right_34 rfl (by decide) (incN _) ?_ | refine tt_inc1 (q := 37) hc dX9_right_34 rfl (by decide) rfl ?_
            refine tt_goto (t := 2) hc dX9_right_37 rfl ?_
            first
            | exact ih (s + 1) (by omega) (by omega) (fun t h1 h2 h3 => (Nat.lt_succ_iff_lt_or_eq.mp h2).elim (fun z => hno t h1 z h3) (fun z => absurd (z ▸ h3) c_19))
            | exact ih (s + 1) (by omega) (by omega) (fun t h1 h2 h3 => (Nat.lt_succ_iff_lt_or_eq.mp h2).elim (fun z => hno t h1 z h3) (fun z => z ▸ Nat.not_lt.mpr c_29))
          · refine tt_iconst (v := nI 0) (q := 33) hc rfl dX9_right_32 rfl ?_
            refine tt_reti hX rfl dX9_right_33 ?_
            exact qb0 hQ (rgt_f h0 (by omega) c_19 (by omega))
  refine tt_iconst (v := nI 1) (q := 1) hc rfl dX9_right_0 rfl ?_
  refine tt_is1 (q := 2) hc dX9_right_1 rfl (by decide) ?_
  exact L 255 1 rfl (by decide) (fun t h1 h2 => by omega)
