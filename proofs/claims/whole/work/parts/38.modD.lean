/-! THE MODEL: the past, the kept, images -/
theorem HA77 : HA 77 1 256 := ⟨by decide, rfl, by decide⟩
theorem HA35 : HA 35 0 4 := ⟨by decide, rfl, by decide⟩
theorem HA76 : HA 76 0 4 := ⟨by decide, rfl, by decide⟩
theorem HAb {j : Nat} (h : j < 23) : HA (77 + j) 1 256 := ⟨by omega, sh_bo h, by decide⟩
theorem HAs {j : Nat} (h : j < 8) : HA (79 + j) 1 256 := by
  have := HAb (j := 2 + j) (by omega)
  rw [show 77 + (2 + j) = 79 + j by omega] at this
  exact this
theorem HAk {j : Nat} (h : j < 4) : HA (91 + j) 1 256 := by
  have := HAb (j := 14 + j) (by omega)
  rw [show 77 + (14 + j) = 91 + j by omega] at this
  exact this
theorem HAi {j : Nat} (h : j < 4) : HA (96 + j) 1 256 := by
  have := HAb (j := 19 + j) (by omega)
  rw [show 77 + (19 + j) = 96 + j by omega] at this
  exact this
set_option maxHeartbeats 4000000 in
theorem c_X9_count {l : Launch} {v : Int32} {S : ST} {μ : Mem} {Q : Option Value → Mem → Prop} (hM : MR μ S) (hQ : ∀ μ', frm mL μ μ' → MR μ' S → Q (some (.int (an_count v S))) μ') : CC l 1 mX9_count [.ref 24, .int v] μ Q := by
  refine CC.of (M := mX9_count) (by decide +kernel) rfl (fun v h => by simp at h; rcases h with rfl | rfl <;> rfl) (Nat.le_of_ble_eq_true rfl) (fun X hX => ?_)
  have hc := hX.cx
  obtain ⟨K, B, hs, ks, im, ls, tx, pp⟩ := S
  obtain ⟨⟨a0, a1, a2⟩, a3, a4, a5, a6, a7, a8⟩ := id hM
  have a77 := HA77
  have e2 := a3.2.1
  have e3 := a4.2.1
  have e6 := a7.2.1
  have e7 := a8.2.1
  have h := hQ μ frm.rf hM
  dsimp only [an_count] at h
  refine tt_il1 (q := 1) hc dX9_count_0 rfl ?_
  rcases sw_n v 5 (by decide) with ⟨j, hj, rfl⟩ | hout
  · rcases (show j = 0 ∨ j = 1 ∨ j = 2 ∨ j = 3 ∨ j = 4 by omega) with rfl | rfl | rfl | rfl | rfl
    · refine tt_tswI (t := 36) hc dX9_count_1 (by decide) (by decide) rfl rfl ?_
      refine tt_al0 (q := 37) hc dX9_count_36 rfl ?_
      refine tt_getR (q := 40) hc fl_X9_15 (by first | assumption | exact ⟨by decide, _, rfl, rfl⟩) dX9_count_37 rfl ?_
      refine tt_cS1 (q := 43) (d' := 0) hc (by first | decide | omega) kmX9_bodiesOf ml_X9_140 (Nat.le_of_ble_eq_true rfl) dX9_count_40 rfl ?_
      refine c_X9_bodiesOf a77 a0 a2 ?_
      dsimp only [Option.toList, List.nil_append, List.cons_append]
      refine tt_reti hX rfl dX9_count_43 ?_
      exact h
    · refine tt_tswI (t := 44) hc dX9_count_1 (by decide) (by decide) rfl rfl ?_
      refine tt_al0 (q := 45) hc dX9_count_44 rfl ?_
      refine tt_getI (q := 48) hc fl_X9_214 (by first | assumption | exact ⟨by decide, _, rfl, _, rfl⟩) dX9_count_45 rfl ?_
      rw [e3]
      refine tt_reti hX rfl dX9_count_48 ?_
      exact h
    · refine tt_tswI (t := 49) hc dX9_count_1 (by decide) (by decide) rfl rfl ?_
      refine tt_al0 (q := 50) hc dX9_count_49 rfl ?_
      refine tt_getI (q := 53) hc fl_X9_120 (by first | assumption | exact ⟨by decide, _, rfl, _, rfl⟩) dX9_count_50 rfl ?_
      rw [e2]
      refine tt_reti hX rfl dX9_count_53 ?_
      exact h
    · refine tt_tswI (t := 54) hc dX9_count_1 (by decide) (by decide) rfl rfl ?_
      refine tt_al0 (q := 55) hc dX9_count_54 rfl ?_
      refine tt_getI (q := 58) hc fl_X9_243 (by first | assumption | exact ⟨by decide, _, rfl, _, rfl⟩) dX9_count_55 rfl ?_
      rw [e6]
      refine tt_reti hX rfl dX9_count_58 ?_
      exact h
    · refine tt_tswI (t := 59) hc dX9_count_1 (by decide) (by decide) rfl rfl ?_
      refine tt_al0 (q := 60) hc dX9_count_59 rfl ?_
      refine tt_getI (q := 63) hc fl_X9_330 (by first | assumption | exact ⟨by decide, _, rfl, _, rfl⟩) dX9_count_60 rfl ?_
      rw [e7]
      refine tt_reti hX rfl dX9_count_63 ?_
      exact h
  · refine tt_tswO (t := 64) hc dX9_count_1 hout rfl ?_
    refine tt_bipush (v := -2) (q := 66) hc (by decide) dX9_count_64 rfl ?_
    refine tt_reti hX rfl dX9_count_66 ?_
    rw [if_neg (nI_neq (by omega) (by decide) hout), if_neg (nI_neq (by omega) (by decide) hout), if_neg (nI_neq (by omega) (by decide) hout), if_neg (nI_neq (by omega) (by decide) hout), if_neg (nI_neq (by omega) (by decide) hout)] at h
    exact h
theorem kpt_iff {ks : List (Nat × HP)} {v : Int32} (h4 : ks.length ≤ 4) : (∃ i q, i < 4 ∧ v = nI i ∧ kpt ks v = some i ∧ ks[i]? = some q ∧ inB v (nI 0) (nI ks.length - nI 1) = true) ∨ (kpt ks v = none ∧ inB v (nI 0) (nI ks.length - nI 1) = false) := by
  cases hk : kpt ks v with
  | some i =>
    obtain ⟨h1, h2⟩ := kpt_some h4 hk
    obtain ⟨q, hq, hi⟩ := kpt_get h4 hk
    refine Or.inl ⟨i, q, hi, h2, rfl, hq, ?_⟩
    rw [h2, pk_sub (by omega)]
    exact inB_in (nI_pos (by omega)) (fun z => by have := (nI_ltI (by omega) (by omega)).mp z; omega)
  | none =>
    refine Or.inr ⟨rfl, ?_⟩
    unfold kpt at hk
    split at hk
    · cases hk
    · rename_i hn
      cases e : inB v (nI 0) (nI ks.length - nI 1)
      · rfl
      · exfalso
        simp only [inB, Bool.and_eq_true, decide_eq_true_eq] at e
        apply hn
        refine ⟨e.1, ?_⟩
        rcases Nat.eq_zero_or_pos ks.length with z | z
        · rw [z] at e
          have := Int32.le_trans e.1 e.2
          exact absurd this (by decide)
        · rw [pk_sub (by omega)] at e
          exact Int32.lt_of_le_of_lt e.2 (nI_lt (by omega) (by omega))
set_option maxHeartbeats 4000000 in
theorem c_X9_isKept {l : Launch} {v : Int32} {ks : List (Nat × HP)} {μ : Mem} {Q : Option Value → Mem → Prop} (hM : MK μ ks) (hQ : Q (some (.int (bI (inB v (nI 0) (nI ks.length - nI 1))))) μ) : CC l 1 mX9_isKept [.ref 24, .int v] μ Q := by
  refine CC.of (M := mX9_isKept) (by decide +kernel) rfl (fun v h => by simp at h; rcases h with rfl | rfl <;> rfl) (Nat.le_of_ble_eq_true rfl) (fun X hX => ?_)
  have hc := hX.cx
  have e3 := hM.2.1
  refine tt_il1 (q := 1) hc dX9_isKept_0 rfl ?_
  refine tt_iconst (v := nI 0) (q := 2) hc rfl dX9_isKept_1 rfl ?_
  refine tt_al0 (q := 3) hc dX9_isKept_2 rfl ?_
  refine tt_getI (q := 6) hc fl_X9_214 (by first | assumption | exact ⟨by decide, _, rfl, _, rfl⟩) dX9_isKept_3 rfl ?_
  rw [e3]
  refine tt_iconst (v := nI 1) (q := 7) hc rfl dX9_isKept_6 rfl ?_
  refine tt_isub (q := 8) hc dX9_isKept_7 rfl ?_
  refine tt_cS3 (q := 11) (d' := 0) hc (by first | decide | omega) kmX9_in ml_X9_91 (Nat.le_of_ble_eq_true rfl) dX9_isKept_8 rfl ?_
  refine c_X9_in ?_
  dsimp only [Option.toList, List.nil_append, List.cons_append]
  refine tt_retz hX rfl (by first | decide | exact bI_01 _) dX9_isKept_11 ?_
  exact hQ
theorem HQ34 : HQ 34 4 4 (fun i => 91 + i) := ⟨by decide, rfl, by decide⟩
theorem HQ27 : HQ 27 4 8 (fun i => 79 + i) := ⟨by decide, rfl, by decide⟩
/-- all but those cells stands, of the model's own all but those fields -/
def mg (l p : List Nat) (μ μ' : Mem) : Prop := (∀ i, i ∉ l → i ≠ 24 → μ' i = μ i) ∧ ∀ k, k ∉ p → μ' 24 k = μ 24 k
theorem mg.rf {l p : List Nat} {μ : Mem} : mg l p μ μ := ⟨fun _ _ _ => rfl, fun _ _ => rfl⟩
theorem mg.tr {l p : List Nat} {μ ν ρ : Mem} (h1 : mg l p μ ν) (h2 : mg l p ν ρ) : mg l p μ ρ := ⟨fun i a b => (h2.1 i a b).trans (h1.1 i a b), fun k h => (h2.2 k h).trans (h1.2 k h)⟩
theorem mg.mono {l l' p p' : List Nat} {μ ν : Mem} (h : mg l p μ ν) (hs : ∀ i ∈ l, i ∈ l') (hp : ∀ i ∈ p, i ∈ p') : mg l' p' μ ν := ⟨fun i a b => h.1 i (fun z => a (hs i z)) b, fun k a => h.2 k (fun z => a (hp k z))⟩
theorem mg.fr {l p : List Nat} {μ ν : Mem} (h : frm l μ ν) (h24 : 24 ∉ l) : mg l p μ ν := ⟨fun i a _ => h i a, fun k _ => by rw [h 24 h24]⟩
theorem mg.own {μ : Mem} {l p : List Nat} {k : Nat} {v : Int32} (hk : k ∈ p) : mg l p μ (mset μ 24 (upd (μ 24) k v)) := ⟨fun i _ b => mset_ne b, fun j hj => by rw [mset_eq, pk_un (fun z => hj (by rw [z]; exact hk))]⟩
theorem mg.ml {l p : List Nat} {μ μ' : Mem} (h : mg l p μ μ') (hl : l.all (fun i => decide ((24 ≤ i ∧ i < 40) ∨ (72 ≤ i ∧ i < 112))) = true) : frm mL μ μ' := fun i hi => h.1 i (fun z => hi (mL_in (by have := List.all_eq_true.mp hl i z; simpa using this))) (fun e => hi (mL_in (by omega)))
theorem BA.mg {μ μ' : Mem} {a : Nat} {B : HP} {l p : List Nat} (h : BA μ a B) (hf : mg l p μ μ') (ha : a ∉ l) (h24 : a ≠ 24) : BA μ' a B := fun s hs => by rw [hf.1 a ha h24]; exact h s hs
theorem MK.mg {μ μ' : Mem} {ks : List (Nat × HP)} {l p : List Nat} (h : MK μ ks) (hf : mg l p μ μ') (hl : ∀ i, i ∈ l → (i < 91 ∨ 95 ≤ i) ∧ i ≠ 35) (hp : 15 ∉ p) : MK μ' ks := ⟨h.1, by rw [hf.2 15 hp]; exact h.2.1, fun i q hq => by
  have h1 := h.1
  have h2 := (List.getElem?_eq_some_iff.mp hq).1
  obtain ⟨g1, g2, g3⟩ := h.2.2.1 i q hq
  exact ⟨g1.mg hf (fun z => by have := hl _ z; omega) (by omega), by rw [hf.1 35 (fun z => (hl _ z).2 rfl) (by decide)]; exact g2, g3⟩, fun j hj => (h.2.2.2 j hj).imp (fun C hC => hC.mg hf (fun z => by have := hl _ z; omega) (by omega))⟩
theorem MI.mg {μ μ' : Mem} {im : Option (Nat × HP × List (Nat × HP))} {l p : List Nat} (h : MI μ im) (hf : mg l p μ μ') (hl : ∀ i, i ∈ l → (i < 95 ∨ 100 ≤ i) ∧ i ≠ 76) (h28 : 28 ∉ p) (h29 : 29 ∉ p) (h30 : 30 ∉ p) : MI μ' im := by
  match im, h with
  | none, h => exact (hf.2 28 h28).trans h
  | some (K, B, k'), h =>
    obtain ⟨g1, g2, g3, g4, g5, g6, g7, g8⟩ := h
    refine ⟨(hf.2 28 h28).trans g1, (hf.2 29 h29).trans g2, g3, g4.mg hf (fun z => by have := hl _ z; omega) (by omega), g5, (hf.2 30 h30).trans g6, fun i q hq => ?_, fun j hj => (g8 j hj).imp (fun C hC => hC.mg hf (fun z => by have := hl _ z; omega) (by omega))⟩
    have h2 := (List.getElem?_eq_some_iff.mp hq).1
    obtain ⟨j1, j2, j3⟩ := g7 i q hq
    exact ⟨j1.mg hf (fun z => by have := hl _ z; omega) (by omega), by rw [hf.1 76 (fun z => (hl _ z).2 rfl) (by decide)]; exact j2, j3⟩
theorem ML.mg {μ μ' : Mem} {ls : Nat → Option (List Int32)} {l p : List Nat} (h : ML μ ls) (hf : mg l p μ μ') (hl : ∀ i, i ∈ l → i < 108 ∧ i ≠ 73) : ML μ' ls := by
  intro t ht
  have := h t ht
  rw [hf.1 73 (fun z => (hl _ z).2 rfl) (by decide), hf.1 (108 + t) (fun z => by have := hl _ z; omega) (by omega)]
  exact this
theorem MX.mg {μ μ' : Mem} {tx : List Nat} {l p : List Nat} (h : MX μ tx) (hf : mg l p μ μ') (hl : 38 ∉ l) (hp : 19 ∉ p) : MX μ' tx := ⟨h.1, (hf.2 19 hp).trans h.2.1, by rw [hf.1 38 hl (by decide)]; exact h.2.2.1, h.2.2.2⟩
theorem MY.mg {μ μ' : Mem} {pp : List Nat} {l p : List Nat} (h : MY μ pp) (hf : mg l p μ μ') (hl : 72 ∉ l) (hp : 25 ∉ p) : MY μ' pp := ⟨h.1, (hf.2 25 hp).trans h.2.1, by rw [hf.1 72 hl (by decide)]; exact h.2.2⟩
theorem MP.mg {μ μ' : Mem} {K : Nat} {hs : List HP} {l p : List Nat} (h : MP μ K hs) (hf : mg l p μ μ') (hl : ∀ i, i ∈ l → i < 79 ∨ 87 ≤ i) (hp : 6 ∉ p) : MP μ' K hs := ⟨h.1, by rw [hf.2 6 hp]; exact h.2.1, fun i C hC => by
  have h1 := h.1
  have h2 := (List.getElem?_eq_some_iff.mp hC).1
  exact ⟨(h.2.2 i C hC).1.mg hf (fun z => by have := hl _ z; omega) (by omega), (h.2.2 i C hC).2⟩⟩
/-- a step of the heap: the past and the heap are written, the rest stands -/
theorem MR.step {μ ν : Mem} {K : Nat} {B B' : HP} {hs hs' : List HP} {ks : List (Nat × HP)} {im : Option (Nat × HP × List (Nat × HP))} {ls : Nat → Option (List Int32)} {tx pp : List Nat} (h : MR μ (K, B, hs, ks, im, ls, tx, pp)) (hf : mg (77 :: List.range' 79 8) [6] μ ν) (hP : MP ν K hs') (hK : HOK K B') (hB : BA ν 77 B') : MR ν (K, B', hs', ks, im, ls, tx, pp) := by
  obtain ⟨⟨a0, a1, a2⟩, a3, a4, a5, a6, a7, a8⟩ := h
  exact ⟨⟨hK, (hf.2 0 (by decide)).trans a1, hB⟩, hP, a4.mg hf (by decide) (by decide), a5.mg hf (by decide) (by decide) (by decide) (by decide), a6.mg hf (by decide), a7.mg hf (by decide) (by decide), a8.mg hf (by decide) (by decide)⟩
