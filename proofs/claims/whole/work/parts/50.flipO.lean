/-! THE MODEL: flips laid and found -/
theorem togs_ok {K pts : Nat} (hp : pts < 256) (hk : pop pts = K + 1) : ∀ n p (B : HP), p + n = 8 → HOK K B → HOK K (togsP pts n p B)
  | 0, _, _, _, h => h
  | n + 1, p, B, he, h => by
    rw [togsP]
    refine togs_ok hp hk n (p + 1) _ (by omega) ?_
    split
    · rename_i c
      obtain ⟨l1, l2⟩ := less1 pts hp p (by omega) c
      exact tog_ok h l2 (by omega)
    · exact h
theorem flp_ok {K : Nat} {B : HP} (h : HOK K B) {a : Nat} (ha : a < 256) : HOK K (flp K B a) := by
  unfold flp
  split
  · exact h
  · rename_i hn
    exact togs_ok (or_lt ha (prt_lt K B a)) (prt_pop h ha hn).2.2.2.2.2 8 0 B rfl h
def FL (μ : Mem) (d K : Nat) (B : HP) : Prop := μ 32 d = nI (fl K B).length ∧ ∀ i a, (fl K B)[i]? = some a → μ (100 + d) i = nI a ∧ μ (104 + d) i = nI (prt K B a)
def lfL (d : Nat) : List Nat := [26, 78, 32, 100 + d, 104 + d]
theorem HQ30 : HQ 30 5 4 (fun j => 100 + j) := ⟨by decide, rfl, by decide⟩
theorem HQ31 : HQ 31 5 4 (fun j => 104 + j) := ⟨by decide, rfl, by decide⟩
theorem HQ33 : HQ 33 4 4 (fun j => 87 + j) := ⟨by decide, rfl, by decide⟩
theorem HA32 : HA 32 0 4 := ⟨by decide, rfl, by decide⟩
theorem HAf {j : Nat} (h : j < 8) : HA (100 + j) 0 256 := ⟨by omega, sh_fl h, by decide⟩
theorem HAg {j : Nat} (h : j < 4) : HA (104 + j) 0 256 := by
  have := HAf (j := 4 + j) (by omega)
  rw [show 100 + (4 + j) = 104 + j by omega] at this
  exact this
theorem HAt {j : Nat} (h : j < 4) : HA (87 + j) 1 256 := by
  have := HAb (j := 10 + j) (by omega)
  rw [show 77 + (10 + j) = 87 + j by omega] at this
  exact this
theorem FA.fr {μ ν : Mem} {B : HP} {l : List Nat} (h : FA μ B) (hf : frm l μ ν) (h26 : 26 ∉ l) (h78 : 78 ∉ l) (h24 : 24 ∉ l) : FA ν B := by
  unfold FA
  rw [hf 26 h26, hf 78 h78, hf 24 h24]
  exact h
theorem fl_nil (K : Nat) (B : HP) : [] ++ flF K B 255 1 = fl K B := by rw [List.nil_append, fl]
theorem snoc_len {α : Type} (l : List α) (a : α) : (l ++ [a]).length = l.length + 1 := by simp
theorem snoc_app {α : Type} (l r : List α) (a : α) : (l ++ [a]) ++ r = l ++ a :: r := by simp
theorem app_at {α : Type} {l r m : List α} {a : α} (h : l ++ a :: r = m) : m[l.length]? = some a := by
  rw [← h, List.getElem?_append_right (Nat.le_refl _), Nat.sub_self]
  rfl
set_option maxHeartbeats 1000000 in
theorem c_X9_layFlips {l : Launch} {c d K : Nat} {B : HP} {μ : Mem} {Q : Option Value → Mem → Prop} (hA : HA c 1 256) (hcc : 77 ≤ c ∧ c ≠ 78 ∧ c < 100) (hd : d < 4) (hK : HOK K B) (hB : BA μ c B) (hz : μ 24 0 = nI K) (hQ : ∀ μ', mf (lfL d) μ μ' → (∀ j, j ≠ d → μ' 32 j = μ 32 j) → FA μ' B → FL μ' d K B → Q none μ') : CC l 3 mX9_layFlips [.ref 24, .ref c, .int (nI d)] μ Q := by
  refine CC.of (M := mX9_layFlips) (by decide +kernel) rfl (fun v h => by simp at h; rcases h with rfl | rfl | rfl <;> rfl) (Nat.le_of_ble_eq_true rfl) (fun X hX => ?_)
  have hc := hX.cx
  have q30 := HQ30
  have q31 := HQ31
  have a32 := HA32
  have aA := HAf (j := d) (by omega)
  have aB := HAg hd
  have hl2 := fl_len K B
  have L : ∀ (ν0 : Mem), mf [26, 78] μ ν0 → FA ν0 B → ∀ (m s : Nat) (dn : List Nat) (ν : Mem) (w : Value), s + m = 256 → 0 < s → dn ++ flF K B m s = fl K B → frm [100 + d, 104 + d] ν0 ν → (∀ i a, dn[i]? = some a → ν (100 + d) i = nI a ∧ ν (104 + d) i = nI (prt K B a)) → TT X 10 [.ref 24, .ref c, .int (nI d), .int (nI dn.length), .int (nI s), w] [] ν := by
    intro ν0 hf0 hF0 m
    induction m with
    | zero =>
      intro s dn ν w hs h0 hdn hf hv
      rw [flF, List.append_nil] at hdn
      refine tt_il4 (q := 12) hc dX9_layFlips_10 rfl ?_
      refine tt_sipush (v := nI 256) (q := 15) hc (by decide) dX9_layFlips_12 rfl ?_
      first | (with_reducible refine chk2 ?_; refine tt_icgeN (t := 63) (q := 18) hc (by omega) (by omega) dX9_layFlips_15 rfl rfl (fun c_15 => ?_) (fun c_15 => ?_)) | refine tt_icge (t := 63) (q := 18) hc dX9_layFlips_15 rfl rfl (fun c_15 => ?_) (fun c_15 => ?_)
      · refine tt_al0 (q := 64) hc dX9_layFlips_63 rfl ?_
        refine tt_getR (q := 67) hc fl_X9_45 (by first | assumption | exact ⟨by decide, _, rfl, rfl⟩) dX9_layFlips_64 rfl ?_
        refine tt_il2 (q := 68) hc dX9_layFlips_67 rfl ?_
        refine tt_il3 (q := 69) hc dX9_layFlips_68 rfl ?_
        refine tt_iast (q := 70) hc (by first | assumption | exact ⟨by decide, rfl, by decide⟩) (by omega) dX9_layFlips_69 rfl ?_
        refine tt_retv hX rfl dX9_layFlips_70 ?_
        have hf2 : frm [32, 100 + d, 104 + d] ν0 (mset ν 32 (upd (ν 32) d (nI dn.length))) := (hf.mono (fun i hi => List.mem_cons_of_mem _ hi)).tr (frm.set.mono (fun i hi => by rw [List.mem_singleton.mp hi]; exact List.mem_cons_self))
        refine hQ _ ((hf0.mono (fun i hi => ?_)).tr (mf.fr (hf2.mono (fun i hi => ?_)) ?_)) (fun j hj => ?_) (hF0.fr hf2 (by simp; omega) (by simp; omega) (by simp; omega)) ⟨?_, fun i a hi => ?_⟩
        · simp [lfL] at hi ⊢
          omega
        · simp [lfL] at hi ⊢
          omega
        · simp [lfL]
          omega
        · rw [mset_eq, pk_un hj, hf 32 (by simp; omega), hf0.1 32 (by decide) (by decide)]
        · rw [mset_eq, pk_us, hdn]
        · rw [← hdn] at hi
          rw [mset_ne (by omega), mset_ne (by omega)]
          exact hv i a hi
      · omega
    | succ m ih =>
      intro s dn ν w hs h0 hdn hf hv
      have hp := prt_lt K B s
      have hF := hF0.fr hf (by simp; omega) (by simp; omega) (by simp; omega)
      have hz2 : ν 24 0 = nI K := by rw [hf 24 (by simp; omega), hf0.2 0 (by decide)]; exact hz
      rw [flF] at hdn
      refine tt_il4 (q := 12) hc dX9_layFlips_10 rfl ?_
      refine tt_sipush (v := nI 256) (q := 15) hc (by decide) dX9_layFlips_12 rfl ?_
      first | (with_reducible refine chk2 ?_; refine tt_icgeN (t := 63) (q := 18) hc (by omega) (by omega) dX9_layFlips_15 rfl rfl (fun c_15 => ?_) (fun c_15 => ?_)) | refine tt_icge (t := 63) (q := 18) hc dX9_layFlips_15 rfl rfl (fun c_15 => ?_) (fun c_15 => ?_)
      · omega
      · refine tt_al0 (q := 19) hc dX9_layFlips_18 rfl ?_
        refine tt_il4 (q := 21) hc dX9_layFlips_19 rfl ?_
        refine tt_cV1 (q := 24) (d' := 2) (ci := 9) hc (by first | decide | omega) kmX9_forWhat ml_X9_200 (by first | assumption | exact ⟨by decide, _, rfl⟩) rfl (Nat.le_of_ble_eq_true rfl) dX9_layFlips_21 rfl ?_
        refine c_X9_forWhat hK hF hz2 h0 (by omega) ?_
        dsimp only [Option.toList, List.nil_append, List.cons_append]
        refine tt_is5 (q := 26) hc dX9_layFlips_24 rfl (by decide) ?_
        refine tt_il5 (q := 28) hc dX9_layFlips_26 rfl ?_
        first | (with_reducible refine chkb ?_; refine tt_ifneB (t := 34) (q := 31) hc dX9_layFlips_28 rfl rfl (fun c_28 => ?_) (fun c_28 => ?_)) | (with_reducible refine chk1 ?_; refine tt_ifneN (t := 34) (q := 31) hc (by omega) dX9_layFlips_28 rfl rfl (fun c_28 => ?_) (fun c_28 => ?_)) | refine tt_ifne (t := 34) (q := 31) hc dX9_layFlips_28 rfl rfl (fun c_28 => ?_) (fun c_28 => ?_)
        · rw [if_neg (by omega)] at hdn
          have hl := congrArg List.length hdn
          rw [List.length_append, List.length_cons] at hl
          refine tt_al0 (q := 35) hc dX9_layFlips_34 rfl ?_
          refine tt_getR (q := 38) hc fl_X9_39 (by first | assumption | exact ⟨by decide, _, rfl, rfl⟩) dX9_layFlips_35 rfl ?_
          refine tt_il2 (q := 39) hc dX9_layFlips_38 rfl ?_
          refine tt_aald (q := 40) hc (r := _) (by first | assumption | exact ⟨by decide, rfl, by decide⟩) (by decide) (by omega) dX9_layFlips_39 rfl ?_
          refine tt_il3 (q := 41) hc dX9_layFlips_40 rfl ?_
          refine tt_il4 (q := 43) hc dX9_layFlips_41 rfl ?_
          refine tt_iast (q := 44) hc (by first | assumption | exact ⟨by decide, rfl, by decide⟩) (by omega) dX9_layFlips_43 rfl ?_
          refine tt_al0 (q := 45) hc dX9_layFlips_44 rfl ?_
          refine tt_getR (q := 48) hc fl_X9_42 (by first | assumption | exact ⟨by decide, _, rfl, rfl⟩) dX9_layFlips_45 rfl ?_
          refine tt_il2 (q := 49) hc dX9_layFlips_48 rfl ?_
          refine tt_aald (q := 50) hc (r := _) (by first | assumption | exact ⟨by decide, rfl, by decide⟩) (by decide) (by omega) dX9_layFlips_49 rfl ?_
          refine tt_il3 (q := 51) hc dX9_layFlips_50 rfl ?_
          refine tt_il5 (q := 53) hc dX9_layFlips_51 rfl ?_
          refine tt_iast (q := 54) hc (by first | assumption | exact ⟨by decide, rfl, by decide⟩) (by omega) dX9_layFlips_53 rfl ?_
          first | refine tt_inc3 (q := 57) hc dX9_layFlips_54 rfl (by decide) (incN _) ?_ | refine tt_inc3 (q := 57) hc dX9_layFlips_54 rfl (by decide) rfl ?_
          first | refine tt_inc4 (q := 60) hc dX9_layFlips_57 rfl (by decide) (incN _) ?_ | refine tt_inc4 (q := 60) hc dX9_layFlips_57 rfl (by decide) rfl ?_
          refine tt_goto (t := 10) hc dX9_layFlips_60 rfl ?_
          first
          | (rw [if_pos c_28] at hdn; exact ih (s + 1) dn ν _ (by omega) (by omega) hdn hf hv)
          | (rw [← snoc_len dn s]
             refine ih (s + 1) (dn ++ [s]) _ _ (by omega) (by omega) (by rw [snoc_app]; exact hdn) ((hf.tr (frm.set.mono (fun i hi => by rw [List.mem_singleton.mp hi]; exact List.mem_cons_self))).tr (frm.set.mono (fun i hi => by rw [List.mem_singleton.mp hi]; exact List.mem_cons_of_mem _ List.mem_cons_self))) (fun i a hi => ?_)
             have hi2 := (List.getElem?_eq_some_iff.mp hi).1
             rw [snoc_len] at hi2
             rw [mset_eq, mset_ne (show 104 + d ≠ 100 + d by omega), mset_ne (show 100 + d ≠ 104 + d by omega), mset_eq]
             by_cases e : i < dn.length
             · rw [List.getElem?_append_left e] at hi
               rw [pk_un (by omega), pk_un (by omega)]
               exact hv i a hi
             · have e2 : i = dn.length := by omega
               subst e2
               rw [List.getElem?_append_right (Nat.le_refl _), Nat.sub_self] at hi
               simp only [List.getElem?_cons_zero, Option.some.injEq] at hi
               subst hi
               rw [pk_us, pk_us]
               exact ⟨rfl, rfl⟩)
        · refine tt_goto (t := 57) hc dX9_layFlips_31 rfl ?_
          first | refine tt_inc4 (q := 60) hc dX9_layFlips_57 rfl (by decide) (incN _) ?_ | refine tt_inc4 (q := 60) hc dX9_layFlips_57 rfl (by decide) rfl ?_
          refine tt_goto (t := 10) hc dX9_layFlips_60 rfl ?_
          first
          | (rw [if_pos c_28] at hdn; exact ih (s + 1) dn ν _ (by omega) (by omega) hdn hf hv)
          | (rw [← snoc_len dn s]
             refine ih (s + 1) (dn ++ [s]) _ _ (by omega) (by omega) (by rw [snoc_app]; exact hdn) ((hf.tr (frm.set.mono (fun i hi => by rw [List.mem_singleton.mp hi]; exact List.mem_cons_self))).tr (frm.set.mono (fun i hi => by rw [List.mem_singleton.mp hi]; exact List.mem_cons_of_mem _ List.mem_cons_self))) (fun i a hi => ?_)
             have hi2 := (List.getElem?_eq_some_iff.mp hi).1
             rw [snoc_len] at hi2
             rw [mset_eq, mset_ne (show 104 + d ≠ 100 + d by omega), mset_ne (show 100 + d ≠ 104 + d by omega), mset_eq]
             by_cases e : i < dn.length
             · rw [List.getElem?_append_left e] at hi
               rw [pk_un (by omega), pk_un (by omega)]
               exact hv i a hi
             · have e2 : i = dn.length := by omega
               subst e2
               rw [List.getElem?_append_right (Nat.le_refl _), Nat.sub_self] at hi
               simp only [List.getElem?_cons_zero, Option.some.injEq] at hi
               subst hi
               rw [pk_us, pk_us]
               exact ⟨rfl, rfl⟩)
  refine tt_al0 (q := 1) hc dX9_layFlips_0 rfl ?_
  refine tt_al1 (q := 2) hc dX9_layFlips_1 rfl ?_
  refine tt_cV1 (q := 5) (d' := 0) (ci := 9) hc (by first | decide | omega) kmX9_layFaces ml_X9_150 (by first | assumption | exact ⟨by decide, _, rfl⟩) rfl (Nat.le_of_ble_eq_true rfl) dX9_layFlips_2 rfl ?_
  refine c_X9_layFaces hA (by omega) hK hB (fun ν0 hf0 hF0 => ?_)
  dsimp only [Option.toList, List.nil_append, List.cons_append]
  refine tt_iconst (v := nI 0) (q := 6) hc rfl dX9_layFlips_5 rfl ?_
  refine tt_is3 (q := 7) hc dX9_layFlips_6 rfl (by decide) ?_
  refine tt_iconst (v := nI 1) (q := 8) hc rfl dX9_layFlips_7 rfl ?_
  refine tt_is4 (q := 10) hc dX9_layFlips_8 rfl (by decide) ?_
  exact L ν0 hf0 hF0 255 1 [] ν0 _ rfl (by decide) (fl_nil K B) frm.rf (fun i a hi => by simp at hi)
/-- the place of a number in a list -/
def fnd (a : Nat) : List Nat → Nat → Option Nat
  | [], _ => none
  | b :: r, i => if b = a then some i else fnd a r (i + 1)
theorem fnd_app {a : Nat} : ∀ (l r : List Nat) (i : Nat), a ∉ l → fnd a (l ++ r) i = fnd a r (i + l.length)
  | [], r, i, _ => rfl
  | b :: l, r, i, h => by
    rw [List.cons_append, fnd, if_neg (fun e => h (by rw [e]; exact List.mem_cons_self)), fnd_app l r (i + 1) (fun z => h (List.mem_cons_of_mem _ z)), List.length_cons]
    congr 1
    omega
theorem fnd_no {a : Nat} : ∀ (l : List Nat) (i : Nat), a ∉ l → fnd a l i = none
  | [], _, _ => rfl
  | b :: l, i, h => by
    rw [fnd, if_neg (fun e => h (by rw [e]; exact List.mem_cons_self)), fnd_no l (i + 1) (fun z => h (List.mem_cons_of_mem _ z))]
theorem flF_add (K : Nat) (B : HP) : ∀ m n s, flF K B (m + n) s = flF K B m s ++ flF K B n (s + m)
  | 0, n, s => by rw [Nat.zero_add, flF, List.nil_append, Nat.add_zero]
  | m + 1, n, s => by
    rw [show m + 1 + n = (m + n) + 1 by omega, flF, flF, flF_add K B m n (s + 1), show s + 1 + m = s + (m + 1) by omega]
    split
    · rfl
    · rw [List.cons_append]
theorem fl_split {K : Nat} {B : HP} {a : Nat} (h0 : 0 < a) (ha : a < 256) : fl K B = flF K B (a - 1) 1 ++ flF K B (256 - a) a := by
  have := flF_add K B (a - 1) (256 - a) 1
  rw [show a - 1 + (256 - a) = 255 by omega, show 1 + (a - 1) = a by omega] at this
  exact this
theorem flF_notin {K : Nat} {B : HP} {a : Nat} (h0 : 0 < a) : a ∉ flF K B (a - 1) 1 := fun z => by
  have := flF_mem _ _ _ z
  omega
theorem fnd_num {K : Nat} {B : HP} {a : Nat} (h0 : 0 < a) (ha : a < 256) : fnd a (fl K B) 0 = num K B a := by
  rw [fl_split h0 ha, fnd_app _ _ _ (flF_notin h0), num, Nat.zero_add, show 256 - a = (255 - a) + 1 by omega, flF]
  split
  · exact fnd_no _ _ (fun z => by
      have := flF_mem _ _ _ z
      omega)
  · rw [fnd, if_pos rfl]
theorem num_get {K : Nat} {B : HP} {a i : Nat} (h0 : 0 < a) (ha : a < 256) (h : num K B a = some i) : (fl K B)[i]? = some a := by
  unfold num at h
  split at h
  · cases h
  · rename_i hn
    simp only [Option.some.injEq] at h
    rw [fl_split h0 ha, ← h, show 256 - a = (255 - a) + 1 by omega, flF, if_neg hn, List.getElem?_append_right (Nat.le_refl _), Nat.sub_self]
    rfl
set_option maxHeartbeats 1000000 in
theorem c_X9_find {l : Launch} {a d K : Nat} {B : HP} {μ : Mem} {Q : Option Value → Mem → Prop} (hd : d < 4) (hL : FL μ d K B) (h0 : 0 < a) (ha : a < 256) (hQ : Q (some (.int (onI (num K B a)))) μ) : CC l 0 mX9_find [.ref 24, .int (nI a), .int (nI d)] μ Q := by
  refine CC.of (M := mX9_find) (by decide +kernel) rfl (fun v h => by simp at h; rcases h with rfl | rfl | rfl <;> rfl) (Nat.le_of_ble_eq_true rfl) (fun X hX => ?_)
  have hc := hX.cx
  have q30 := HQ30
  have a32 := HA32
  have aA := HAf (j := d) (by omega)
  have hl2 := fl_len K B
  rw [← fnd_num h0 ha] at hQ
  have L : ∀ (r dn : List Nat), dn ++ r = fl K B → Q (some (.int (onI (fnd a r dn.length)))) μ → TT X 2 [.ref 24, .int (nI a), .int (nI d), .int (nI dn.length)] [] μ := by
    intro r
    induction r with
    | nil =>
      intro dn hdn h
      rw [List.append_nil] at hdn
      have hl := congrArg List.length hdn
      refine tt_il3 (q := 3) hc dX9_find_2 rfl ?_
      refine tt_al0 (q := 4) hc dX9_find_3 rfl ?_
      refine tt_getR (q := 7) hc fl_X9_45 (by first | assumption | exact ⟨by decide, _, rfl, rfl⟩) dX9_find_4 rfl ?_
      refine tt_il2 (q := 8) hc dX9_find_7 rfl ?_
      refine tt_iald (q := 9) hc (by first | assumption | exact ⟨by decide, rfl, by decide⟩) (by omega) dX9_find_8 rfl ?_
      rw [hL.1]
      first | (with_reducible refine chk2 ?_; refine tt_icgeN (t := 32) (q := 12) hc (by omega) (by omega) dX9_find_9 rfl rfl (fun c_9 => ?_) (fun c_9 => ?_)) | refine tt_icge (t := 32) (q := 12) hc dX9_find_9 rfl rfl (fun c_9 => ?_) (fun c_9 => ?_)
      · refine tt_bipush (v := -5) (q := 34) hc (by decide) dX9_find_32 rfl ?_
        refine tt_reti hX rfl dX9_find_34 ?_
        exact h
      · omega
    | cons b r ih =>
      intro dn hdn h
      have hb := app_at hdn
      have hl := congrArg List.length hdn
      rw [List.length_append, List.length_cons] at hl
      have hm := fl_mem (List.mem_of_getElem? hb)
      rw [fnd] at h
      refine tt_il3 (q := 3) hc dX9_find_2 rfl ?_
      refine tt_al0 (q := 4) hc dX9_find_3 rfl ?_
      refine tt_getR (q := 7) hc fl_X9_45 (by first | assumption | exact ⟨by decide, _, rfl, rfl⟩) dX9_find_4 rfl ?_
      refine tt_il2 (q := 8) hc dX9_find_7 rfl ?_
      refine tt_iald (q := 9) hc (by first | assumption | exact ⟨by decide, rfl, by decide⟩) (by omega) dX9_find_8 rfl ?_
      rw [hL.1]
      first | (with_reducible refine chk2 ?_; refine tt_icgeN (t := 32) (q := 12) hc (by omega) (by omega) dX9_find_9 rfl rfl (fun c_9 => ?_) (fun c_9 => ?_)) | refine tt_icge (t := 32) (q := 12) hc dX9_find_9 rfl rfl (fun c_9 => ?_) (fun c_9 => ?_)
      · omega
      · refine tt_al0 (q := 13) hc dX9_find_12 rfl ?_
        refine tt_getR (q := 16) hc fl_X9_39 (by first | assumption | exact ⟨by decide, _, rfl, rfl⟩) dX9_find_13 rfl ?_
        refine tt_il2 (q := 17) hc dX9_find_16 rfl ?_
        refine tt_aald (q := 18) hc (r := _) (by first | assumption | exact ⟨by decide, rfl, by decide⟩) (by decide) (by omega) dX9_find_17 rfl ?_
        refine tt_il3 (q := 19) hc dX9_find_18 rfl ?_
        refine tt_iald (q := 20) hc (by first | assumption | exact ⟨by decide, rfl, by decide⟩) (by omega) dX9_find_19 rfl ?_
        rw [(hL.2 _ _ hb).1]
        refine tt_il1 (q := 21) hc dX9_find_20 rfl ?_
        first | (with_reducible refine chk2 ?_; refine tt_icneN (t := 26) (q := 24) hc (by omega) (by omega) dX9_find_21 rfl rfl (fun c_21 => ?_) (fun c_21 => ?_)) | refine tt_icne (t := 26) (q := 24) hc dX9_find_21 rfl rfl (fun c_21 => ?_) (fun c_21 => ?_)
        · first | refine tt_inc3 (q := 29) hc dX9_find_26 rfl (by decide) (incN _) ?_ | refine tt_inc3 (q := 29) hc dX9_find_26 rfl (by decide) rfl ?_
          refine tt_goto (t := 2) hc dX9_find_29 rfl ?_
          rw [if_neg c_21] at h
          rw [← snoc_len dn b]
          refine ih (dn ++ [b]) (by rw [snoc_app]; exact hdn) ?_
          rw [snoc_len]
          exact h
        · refine tt_il3 (q := 25) hc dX9_find_24 rfl ?_
          refine tt_reti hX rfl dX9_find_25 ?_
          rw [if_pos c_21] at h
          exact h
  refine tt_iconst (v := nI 0) (q := 1) hc rfl dX9_find_0 rfl ?_
  refine tt_is3 (q := 2) hc dX9_find_1 rfl (by decide) ?_
  exact L (fl K B) [] (List.nil_append _) hQ
