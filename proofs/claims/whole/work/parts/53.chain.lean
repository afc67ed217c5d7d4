/-! THE MODEL: chains -/
def url (rec_ : HP → Option (List Nat)) (K lst : Nat) (B : HP) : List Nat → Nat → Option (List Nat)
  | [], _ => none
  | a :: r, i =>
    if lst ≤ pop (prt K B a) then
      match rec_ (flp K B a) with
      | some p => some (i :: p)
      | none => url rec_ K lst B r (i + 1)
    else url rec_ K lst B r (i + 1)
def urch (K : Nat) (G : HP) (lst : Nat) : Nat → HP → Option (List Nat)
  | 0, B => if gapN B G = 0 then some [] else none
  | n + 1, B => url (urch K G lst n) K lst B (fl K B) 0
theorem gap_step {K : Nat} {B G : HP} (h : HOK K B) {a : Nat} (ha : a < 256) (hn : ¬ prt K B a = 0) : gapN B G ≤ gapN (flp K B a) G + (K + 1) := by
  have hlt := prt_lt K B a
  have hor := or_lt ha hlt
  have hp := (prt_pop h ha hn).2.2.2.2.2
  have e1 : gapN B G ≤ cnt (fun t => (flp K B a t != G t) || insA (a ||| prt K B a) (a ||| prt K B a) 8 t) 255 1 := by
    refine cnt_imp 255 1 (fun t h1 h2 hne => ?_)
    have e : flp K B a t = Bool.xor (B t) (inT (a ||| prt K B a) 8 0 t) := by
      unfold flp
      rw [if_neg hn, togA, togs_in]
    have hi : inT (a ||| prt K B a) 8 0 t = true ↔ insA (a ||| prt K B a) (a ||| prt K B a) 8 t = true := by
      rw [inT_iff hor 8 0 (Nat.le_refl _), insA_iff]
      constructor
      · rintro ⟨q, _, h2, h3⟩
        exact ⟨q, by omega, h3⟩
      · rintro ⟨q, h1, h2⟩
        exact ⟨q, Nat.zero_le _, by omega, h2⟩
    have e2 := Bool.eq_iff_iff.mpr hi
    rw [e, e2]
    cases insA (a ||| prt K B a) (a ||| prt K B a) 8 t
    · rw [Bool.xor_false, Bool.or_false]
      exact hne
    · rw [Bool.or_true]
  have e2 := cnt_or (P := fun t => flp K B a t != G t) (R := insA (a ||| prt K B a) (a ||| prt K B a) 8) 255 1
  have e3 := cnt_add (insA (a ||| prt K B a) (a ||| prt K B a) 8) 1 255 0
  have e4 := insA_cnt hor (a := a ||| prt K B a) (fun q hq => hq) 8 (Nat.le_refl _)
  rw [popn8 _ hor, hp] at e4
  have e5 : gapN (flp K B a) G = cnt (fun t => flp K B a t != G t) 255 1 := rfl
  rw [Nat.zero_add] at e3
  rw [show 1 + 255 = 256 from rfl] at e3
  omega
theorem url_none {rec_ : HP → Option (List Nat)} {K lst : Nat} {B : HP} : ∀ (r : List Nat) (i : Nat), (∀ a ∈ r, rec_ (flp K B a) = none) → url rec_ K lst B r i = none
  | [], _, _ => rfl
  | a :: r, i, h => by
    have ih := url_none (lst := lst) r (i + 1) (fun b hb => h b (List.mem_cons_of_mem _ hb))
    rw [url, h a List.mem_cons_self, ih]
    split <;> rfl
theorem urch_none {K : Nat} {G : HP} {lst : Nat} : ∀ (n : Nat) (B : HP), HOK K B → n * (K + 1) < gapN B G → urch K G lst n B = none
  | 0, B, _, hg => by
    rw [urch, if_neg (by omega)]
  | n + 1, B, h, hg => by
    rw [urch]
    refine url_none _ _ (fun a ha => ?_)
    have hm := fl_mem ha
    have := gap_step (G := G) h hm.2.1 hm.2.2
    rw [Nat.succ_mul] at hg
    exact urch_none n (flp K B a) (flp_ok h hm.2.1) (by omega)
theorem rlp_url {K : Nat} {G : HP} {lst n : Nat} {B : HP} (h : HOK K B) (hr : ∀ C, HOK K C → rch K G lst n C = urch K G lst n C) : ∀ m s num, s + m ≤ 256 → rlp (rch K G lst n) K G lst n B m s num = url (urch K G lst n) K lst B (flF K B m s) num
  | 0, _, _, _ => rfl
  | m + 1, s, num, hs => by
    rw [rlp, flF]
    by_cases c : prt K B s = 0
    · rw [if_pos c, if_pos c]
      exact rlp_url h hr m (s + 1) num (by omega)
    · have ih := rlp_url h hr m (s + 1) (num + 1) (by omega)
      have e : togA B (s ||| prt K B s) = flp K B s := by
        unfold flp
        rw [if_neg c]
      have hK := flp_ok h (a := s) (by omega)
      rw [if_neg c, if_neg c, url, e, hr _ hK, ih]
      by_cases d : lst ≤ pop (prt K B s)
      · rw [if_pos d]
        by_cases f : gapN (flp K B s) G ≤ n * (K + 1)
        · rw [if_pos ⟨d, f⟩]
          cases urch K G lst n (flp K B s) <;> rfl
        · rw [if_neg (fun z => f z.2), urch_none n _ hK (by omega)]
      · rw [if_neg d, if_neg (fun z => d z.1)]
theorem rch_urch {K : Nat} {G : HP} {lst : Nat} : ∀ (n : Nat) (B : HP), HOK K B → rch K G lst n B = urch K G lst n B
  | 0, B, _ => by rw [rch, urch]
  | n + 1, B, h => by
    rw [rch]
    by_cases c : gapN B G ≤ (n + 1) * (K + 1)
    · rw [if_pos c, urch, fl]
      exact rlp_url h (fun C hC => rch_urch n C hC) 255 1 0 (by omega)
    · rw [if_neg c, urch_none (n + 1) B h (by omega)]
theorem same_iff {B G : HP} : gapN B G = 0 ↔ ∀ t, 0 < t → t < 256 → B t = G t := by
  constructor
  · intro h t h1 h2
    cases e : (B t != G t)
    · simpa using e
    · have : 0 < gapN B G := (cnt_pos 255 1).mpr ⟨t, by omega, by omega, e⟩
      omega
  · intro h
    exact cnt_zero (fun t h1 h2 => by simp [h t (by omega) (by omega)])
set_option maxHeartbeats 1000000 in
theorem c_X9_areSame {l : Launch} {c g : Nat} {B G : HP} {μ : Mem} {Q : Option Value → Mem → Prop} (hA : HA c 1 256) (hAg : HA g 1 256) (hB : BA μ c B) (hG : BA μ g G) (hQ : Q (some (.int (bI (decide (gapN B G = 0))))) μ) : CC l 0 mX9_areSame [.ref c, .ref g] μ Q := by
  refine CC.of (M := mX9_areSame) (by decide +kernel) rfl (fun v h => by simp at h; rcases h with rfl | rfl <;> rfl) (Nat.le_of_ble_eq_true rfl) (fun X hX => ?_)
  have hc := hX.cx
  have L : ∀ (n s : Nat), s + n = 256 → 0 < s → (∀ t, 0 < t → t < s → B t = G t) → TT X 2 [.ref c, .ref g, .int (nI s)] [] μ := by
    intro n
    induction n with
    | zero =>
      intro s hs h0 he
      refine tt_il2 (q := 3) hc dX9_areSame_2 rfl ?_
      refine tt_sipush (v := nI 256) (q := 6) hc (by decide) dX9_areSame_3 rfl ?_
      first | (with_reducible refine chk2 ?_; refine tt_icgeN (t := 26) (q := 9) hc (by omega) (by omega) dX9_areSame_6 rfl rfl (fun c_6 => ?_) (fun c_6 => ?_)) | refine tt_icge (t := 26) (q := 9) hc dX9_areSame_6 rfl rfl (fun c_6 => ?_) (fun c_6 => ?_)
      · refine tt_iconst (v := nI 1) (q := 27) hc rfl dX9_areSame_26 rfl ?_
        refine tt_retz hX rfl (by first | decide | exact bI_01 _) dX9_areSame_27 ?_
        exact qb1 hQ (decide_eq_true (same_iff.mpr (fun t h1 h2 => he t h1 (by omega))))
      · omega
    | succ n ih =>
      intro s hs h0 he
      refine tt_il2 (q := 3) hc dX9_areSame_2 rfl ?_
      refine tt_sipush (v := nI 256) (q := 6) hc (by decide) dX9_areSame_3 rfl ?_
      first | (with_reducible refine chk2 ?_; refine tt_icgeN (t := 26) (q := 9) hc (by omega) (by omega) dX9_areSame_6 rfl rfl (fun c_6 => ?_) (fun c_6 => ?_)) | refine tt_icge (t := 26) (q := 9) hc dX9_areSame_6 rfl rfl (fun c_6 => ?_) (fun c_6 => ?_)
      · omega
      · refine tt_al0 (q := 10) hc dX9_areSame_9 rfl ?_
        refine tt_il2 (q := 11) hc dX9_areSame_10 rfl ?_
        refine tt_zald (q := 12) hc (by first | assumption | exact ⟨by decide, rfl, by decide⟩) (by omega) dX9_areSame_11 rfl ?_
        rw [hB s (by omega)]
        refine tt_al1 (q := 13) hc dX9_areSame_12 rfl ?_
        refine tt_il2 (q := 14) hc dX9_areSame_13 rfl ?_
        refine tt_zald (q := 15) hc (by first | assumption | exact ⟨by decide, rfl, by decide⟩) (by omega) dX9_areSame_14 rfl ?_
        rw [hG s (by omega)]
        first | (with_reducible refine chk2 ?_; refine tt_iceqN (t := 20) (q := 18) hc (by omega) (by omega) dX9_areSame_15 rfl rfl (fun c_15 => ?_) (fun c_15 => ?_)) | refine tt_iceq (t := 20) (q := 18) hc dX9_areSame_15 rfl rfl (fun c_15 => ?_) (fun c_15 => ?_)
        · first | refine tt_inc2 (q := 23) hc dX9_areSame_20 rfl (by decide) (incN _) ?_ | refine tt_inc2 (q := 23) hc dX9_areSame_20 rfl (by decide) rfl ?_
          refine tt_goto (t := 2) hc dX9_areSame_23 rfl ?_
          exact ih (s + 1) (by omega) (by omega) (fun t h1 h2 => (Nat.lt_succ_iff_lt_or_eq.mp h2).elim (he t h1) (fun z => by rw [z]; exact bI_inj.mp c_15))
        · refine tt_iconst (v := nI 0) (q := 19) hc rfl dX9_areSame_18 rfl ?_
          refine tt_retz hX rfl (by first | decide | exact bI_01 _) dX9_areSame_19 ?_
          exact qb0 hQ (decide_eq_false (fun z => c_15 (bI_inj.mpr (same_iff.mp z s h0 (by omega)))))
  refine tt_iconst (v := nI 1) (q := 1) hc rfl dX9_areSame_0 rfl ?_
  refine tt_is2 (q := 2) hc dX9_areSame_1 rfl (by decide) ?_
  exact L 255 1 rfl (by decide) (fun t h1 h2 => by omega)
/-- what the search from depth d on lets stand -/
def lfr (d : Nat) (μ ν : Mem) : Prop := mf mwL μ ν ∧ (∀ j, j ≤ d → ν (87 + j) = μ (87 + j)) ∧ ∀ j, j < d → ν (100 + j) = μ (100 + j) ∧ ν (104 + j) = μ (104 + j) ∧ ν 32 j = μ 32 j ∧ ν 36 j = μ 36 j
theorem lfr.rf {d : Nat} {μ : Mem} : lfr d μ μ := ⟨mf.rf, fun _ _ => rfl, fun _ _ => ⟨rfl, rfl, rfl, rfl⟩⟩
theorem lfr.tr {d : Nat} {μ ν ρ : Mem} (h1 : lfr d μ ν) (h2 : lfr d ν ρ) : lfr d μ ρ := ⟨h1.1.tr h2.1, fun j hj => (h2.2.1 j hj).trans (h1.2.1 j hj), fun j hj => by
  obtain ⟨a1, a2, a3, a4⟩ := h1.2.2 j hj
  obtain ⟨b1, b2, b3, b4⟩ := h2.2.2 j hj
  exact ⟨b1.trans a1, b2.trans a2, b3.trans a3, b4.trans a4⟩⟩
theorem lfr.lo {d : Nat} {μ ν : Mem} (h : lfr (d + 1) μ ν) : lfr d μ ν := ⟨h.1, fun j hj => h.2.1 j (by omega), fun j hj => h.2.2 j (by omega)⟩
theorem lfr.lay {d : Nat} {μ ν : Mem} (hd : d < 4) (h : mf (lfL d) μ ν) (h32 : ∀ j, j ≠ d → ν 32 j = μ 32 j) : lfr d μ ν := ⟨h.mono (fun i hi => by simp [lfL] at hi; simp [mwL]; omega), fun j hj => h.1 _ (by simp [lfL]; omega) (by omega), fun j hj => ⟨h.1 _ (by simp [lfL]; omega) (by omega), h.1 _ (by simp [lfL]; omega) (by omega), h32 j (by omega), by rw [h.1 36 (by simp [lfL]; omega) (by omega)]⟩⟩
theorem lfr.th {d : Nat} {μ ν : Mem} (hd : d < 3) (h : frm [87 + (d + 1)] μ ν) : lfr d μ ν := ⟨mf.fr (h.mono (fun i hi => by simp at hi; simp [mwL]; omega)) (by decide), fun j hj => h _ (by simp; omega), fun j hj => ⟨h _ (by simp; omega), h _ (by simp; omega), by rw [h 32 (by simp; omega)], by rw [h 36 (by simp; omega)]⟩⟩
theorem lfr.row {d : Nat} {μ : Mem} {v : Int32} : lfr d μ (mset μ 36 (upd (μ 36) d v)) := ⟨mf.fr (frm.set.mono (by decide)) (by decide), fun j hj => mset_ne (by omega), fun j hj => ⟨mset_ne (by omega), mset_ne (by omega), by rw [mset_ne (by decide)], by rw [mset_eq, pk_un (by omega)]⟩⟩
theorem lfr.fl {d K : Nat} {B : HP} {μ ν : Mem} (h : lfr (d + 1) μ ν) (hL : FL μ d K B) : FL ν d K B := by
  obtain ⟨a1, a2, a3, a4⟩ := h.2.2 d (Nat.lt_succ_self d)
  unfold FL
  rw [a1, a2, a3]
  exact hL
theorem HA36 : HA 36 0 3 := ⟨by decide, rfl, by decide⟩
set_option maxHeartbeats 4000000 in
theorem c_X9_leads {l : Launch} {g K lst : Nat} (hg : 91 ≤ g ∧ g < 95) {G : HP} (hl2 : lst ≤ 2) : ∀ (n len d : Nat) (B : HP) (μ : Mem) (Q : Option Value → Mem → Prop), len = d + n → len ≤ 3 → HOK K B → BA μ (87 + d) B → BA μ g G → μ 24 0 = nI K → (∀ μ', lfr d μ μ' → (∀ p, urch K G lst n B = some p → ∀ j x, p[j]? = some x → μ' 36 (d + j) = nI x) → Q (some (.int (bI (urch K G lst n B).isSome))) μ') → CC l (n + 4) mX9_leads [.ref 24, .int (nI d), .int (nI len), .ref g, .int (nI lst)] μ Q := by
  intro n
  induction n with
  | zero =>
    intro len d B μ Q hlen h3 hK hB hG hz hQ
    refine CC.of (M := mX9_leads) (by decide +kernel) rfl (fun v h => by simp at h; rcases h with rfl | rfl | rfl | rfl | rfl <;> rfl) (Nat.le_of_ble_eq_true rfl) (fun X hX => ?_)
    have hc := hX.cx
    have q33 := HQ33
    have ad := HAt (show d < 4 by omega)
    have ag : HA g 1 256 := by
      have := HAk (show g - 91 < 4 by omega)
      rw [show 91 + (g - 91) = g by omega] at this
      exact this
    have h := hQ μ lfr.rf (fun p z j x q => by
      rw [urch] at z
      split at z
      · cases z
        simp at q
      · cases z)
    rw [urch] at h
    refine tt_il1 (q := 1) hc dX9_leads_0 rfl ?_
    refine tt_il2 (q := 2) hc dX9_leads_1 rfl ?_
    first | (with_reducible refine chk2 ?_; refine tt_icneN (t := 16) (q := 5) hc (by omega) (by omega) dX9_leads_2 rfl rfl (fun c_2 => ?_) (fun c_2 => ?_)) | refine tt_icne (t := 16) (q := 5) hc dX9_leads_2 rfl rfl (fun c_2 => ?_) (fun c_2 => ?_)
    · omega
    · refine tt_al0 (q := 6) hc dX9_leads_5 rfl ?_
      refine tt_getR (q := 9) hc fl_X9_48 (by first | assumption | exact ⟨by decide, _, rfl, rfl⟩) dX9_leads_6 rfl ?_
      refine tt_il1 (q := 10) hc dX9_leads_9 rfl ?_
      refine tt_aald (q := 11) hc (r := _) (by first | assumption | exact ⟨by decide, rfl, by decide⟩) (by decide) (by omega) dX9_leads_10 rfl ?_
      refine tt_al3 (q := 12) hc dX9_leads_11 rfl ?_
      refine tt_cS2 (q := 15) (d' := 0) hc (by first | decide | omega) kmX9_areSame ml_X9_220 (Nat.le_of_ble_eq_true rfl) dX9_leads_12 rfl ?_
      refine c_X9_areSame ad ag hB hG ?_
      dsimp only [Option.toList, List.nil_append, List.cons_append]
      refine tt_retz hX rfl (by first | decide | exact bI_01 _) dX9_leads_15 ?_
      by_cases e : gapN B G = 0
      · rw [if_pos e] at h
        rw [decide_eq_true e]
        exact h
      · rw [if_neg e] at h
        rw [decide_eq_false e]
        exact h
  | succ n ihn =>
    intro len d B μ Q hlen h3 hK hB hG hz hQ
    refine CC.of (M := mX9_leads) (by decide +kernel) rfl (fun v h => by simp at h; rcases h with rfl | rfl | rfl | rfl | rfl <;> rfl) (Nat.le_of_ble_eq_true rfl) (fun X hX => ?_)
    have hc := hX.cx
    have q33 := HQ33
    have q30 := HQ30
    have q31 := HQ31
    have a32 := HA32
    have a36 := HA36
    have ad := HAt (show d < 4 by omega)
    have ad1 := HAt (show d + 1 < 4 by omega)
    have aA := HAf (j := d) (by omega)
    have aB := HAg (show d < 4 by omega)
    have hl255 := fl_len K B
    rw [urch] at hQ
    have L : ∀ (r dn : List Nat) (ν : Mem), dn ++ r = fl K B → lfr d μ ν → FL ν d K B → (∀ μ', lfr d μ μ' → (∀ p, url (urch K G lst n) K lst B r dn.length = some p → ∀ j x, p[j]? = some x → μ' 36 (d + j) = nI x) → Q (some (.int (bI (url (urch K G lst n) K lst B r dn.length).isSome))) μ') → TT X 30 [.ref 24, .int (nI d), .int (nI len), .ref g, .int (nI lst), .int (nI dn.length)] [] ν := by
      intro r
      induction r with
      | nil =>
        intro dn ν hdn hf hL h
        rw [List.append_nil] at hdn
        have hl := congrArg List.length hdn
        refine tt_il5 (q := 32) hc dX9_leads_30 rfl ?_
        refine tt_al0 (q := 33) hc dX9_leads_32 rfl ?_
        refine tt_getR (q := 36) hc fl_X9_45 (by first | assumption | exact ⟨by decide, _, rfl, rfl⟩) dX9_leads_33 rfl ?_
        refine tt_il1 (q := 37) hc dX9_leads_36 rfl ?_
        refine tt_iald (q := 38) hc (by first | assumption | exact ⟨by decide, rfl, by decide⟩) (by omega) dX9_leads_37 rfl ?_
        rw [hL.1]
        first | (with_reducible refine chk2 ?_; refine tt_icgeN (t := 138) (q := 41) hc (by omega) (by omega) dX9_leads_38 rfl rfl (fun c_38 => ?_) (fun c_38 => ?_)) | refine tt_icge (t := 138) (q := 41) hc dX9_leads_38 rfl rfl (fun c_38 => ?_) (fun c_38 => ?_)
        · refine tt_iconst (v := nI 0) (q := 139) hc rfl dX9_leads_138 rfl ?_
          refine tt_retz hX rfl (by first | decide | exact bI_01 _) dX9_leads_139 ?_
          exact h ν hf (fun p z => by cases z)
        · omega
      | cons b r ih =>
        intro dn ν hdn hf hL h
        have hb := app_at hdn
        have hl := congrArg List.length hdn
        rw [List.length_append, List.length_cons] at hl
        have hm := fl_mem (List.mem_of_getElem? hb)
        have hpl := prt_lt K B b
        have hp8 := pop_le _ hpl
        have hBν : BA ν (87 + d) B := fun s hs => by rw [hf.2.1 d (Nat.le_refl _)]; exact hB s hs
        rw [url] at h
        generalize hr : urch K G lst n (flp K B b) = r0 at h
        refine tt_il5 (q := 32) hc dX9_leads_30 rfl ?_
        refine tt_al0 (q := 33) hc dX9_leads_32 rfl ?_
        refine tt_getR (q := 36) hc fl_X9_45 (by first | assumption | exact ⟨by decide, _, rfl, rfl⟩) dX9_leads_33 rfl ?_
        refine tt_il1 (q := 37) hc dX9_leads_36 rfl ?_
        refine tt_iald (q := 38) hc (by first | assumption | exact ⟨by decide, rfl, by decide⟩) (by omega) dX9_leads_37 rfl ?_
        rw [hL.1]
        first | (with_reducible refine chk2 ?_; refine tt_icgeN (t := 138) (q := 41) hc (by omega) (by omega) dX9_leads_38 rfl rfl (fun c_38 => ?_) (fun c_38 => ?_)) | refine tt_icge (t := 138) (q := 41) hc dX9_leads_38 rfl rfl (fun c_38 => ?_) (fun c_38 => ?_)
        · omega
        · refine tt_al0 (q := 42) hc dX9_leads_41 rfl ?_
          refine tt_getR (q := 45) hc fl_X9_42 (by first | assumption | exact ⟨by decide, _, rfl, rfl⟩) dX9_leads_42 rfl ?_
          refine tt_il1 (q := 46) hc dX9_leads_45 rfl ?_
          refine tt_aald (q := 47) hc (r := _) (by first | assumption | exact ⟨by decide, rfl, by decide⟩) (by decide) (by omega) dX9_leads_46 rfl ?_
          refine tt_il5 (q := 49) hc dX9_leads_47 rfl ?_
          refine tt_iald (q := 50) hc (by first | assumption | exact ⟨by decide, rfl, by decide⟩) (by omega) dX9_leads_49 rfl ?_
          rw [(hL.2 _ _ hb).2]
          refine tt_cS1 (q := 53) (d' := 1) hc (by first | decide | omega) kmX9_many ml_X9_110 (Nat.le_of_ble_eq_true rfl) dX9_leads_50 rfl ?_
          refine c_X9_many ?_
          dsimp only [Option.toList, List.nil_append, List.cons_append]
          refine tt_il4 (q := 55) hc dX9_leads_53 rfl ?_
          first | (with_reducible refine chk2 ?_; refine tt_icgeN (t := 61) (q := 58) hc (by omega) (by omega) dX9_leads_55 rfl rfl (fun c_55 => ?_) (fun c_55 => ?_)) | refine tt_icge (t := 61) (q := 58) hc dX9_leads_55 rfl rfl (fun c_55 => ?_) (fun c_55 => ?_)
          · refine tt_al0 (q := 62) hc dX9_leads_61 rfl ?_
            refine tt_getR (q := 65) hc fl_X9_57 (by first | assumption | exact ⟨by decide, _, rfl, rfl⟩) dX9_leads_62 rfl ?_
            refine tt_il1 (q := 66) hc dX9_leads_65 rfl ?_
            refine tt_il5 (q := 68) hc dX9_leads_66 rfl ?_
            refine tt_iast (q := 69) hc (by first | assumption | exact ⟨by decide, rfl, by decide⟩) (by omega) dX9_leads_68 rfl ?_
            refine tt_al0 (q := 70) hc dX9_leads_69 rfl ?_
            refine tt_getR (q := 73) hc fl_X9_48 (by first | assumption | exact ⟨by decide, _, rfl, rfl⟩) dX9_leads_70 rfl ?_
            refine tt_il1 (q := 74) hc dX9_leads_73 rfl ?_
            refine tt_aald (q := 75) hc (r := _) (by first | assumption | exact ⟨by decide, rfl, by decide⟩) (by decide) (by omega) dX9_leads_74 rfl ?_
            refine tt_al0 (q := 76) hc dX9_leads_75 rfl ?_
            refine tt_getR (q := 79) hc fl_X9_48 (by first | assumption | exact ⟨by decide, _, rfl, rfl⟩) dX9_leads_76 rfl ?_
            refine tt_il1 (q := 80) hc dX9_leads_79 rfl ?_
            refine tt_iconst (v := nI 1) (q := 81) hc rfl dX9_leads_80 rfl ?_
            first | (with_reducible refine chk2 ?_; refine tt_iaddN (q := 82) hc dX9_leads_81 rfl ?_) | refine tt_iadd (q := 82) hc dX9_leads_81 rfl ?_
            refine tt_aald (q := 83) hc (r := _) (by first | assumption | exact ⟨by decide, rfl, by decide⟩) (by decide) (by omega) dX9_leads_82 rfl ?_
            refine tt_cS2 (q := 86) (d' := 1) hc (by first | decide | omega) kmX9_lays ml_X9_123 (Nat.le_of_ble_eq_true rfl) dX9_leads_83 rfl ?_
            refine c_X9_lays ad ad1 (B := B) (fun s hs => by rw [mset_ne (by omega)]; exact hBν s hs) (fun ν2 hf2 hB2 => ?_)
            have h21 : ∀ i, i ≠ 87 + (d + 1) → i ≠ 36 → ν2 i = ν i := fun i e1 e2 => by rw [hf2 i (by simpa using e1), mset_ne e2]
            dsimp only [Option.toList, List.nil_append, List.cons_append]
            refine tt_al0 (q := 87) hc dX9_leads_86 rfl ?_
            refine tt_al0 (q := 88) hc dX9_leads_87 rfl ?_
            refine tt_getR (q := 91) hc fl_X9_48 (by first | assumption | exact ⟨by decide, _, rfl, rfl⟩) dX9_leads_88 rfl ?_
            refine tt_il1 (q := 92) hc dX9_leads_91 rfl ?_
            refine tt_iconst (v := nI 1) (q := 93) hc rfl dX9_leads_92 rfl ?_
            first | (with_reducible refine chk2 ?_; refine tt_iaddN (q := 94) hc dX9_leads_93 rfl ?_) | refine tt_iadd (q := 94) hc dX9_leads_93 rfl ?_
            refine tt_aald (q := 95) hc (r := _) (by first | assumption | exact ⟨by decide, rfl, by decide⟩) (by decide) (by omega) dX9_leads_94 rfl ?_
            refine tt_al0 (q := 96) hc dX9_leads_95 rfl ?_
            refine tt_getR (q := 99) hc fl_X9_39 (by first | assumption | exact ⟨by decide, _, rfl, rfl⟩) dX9_leads_96 rfl ?_
            refine tt_il1 (q := 100) hc dX9_leads_99 rfl ?_
            refine tt_aald (q := 101) hc (r := _) (by first | assumption | exact ⟨by decide, rfl, by decide⟩) (by decide) (by omega) dX9_leads_100 rfl ?_
            refine tt_il5 (q := 103) hc dX9_leads_101 rfl ?_
            refine tt_iald (q := 104) hc (by first | assumption | exact ⟨by decide, rfl, by decide⟩) (by omega) dX9_leads_103 rfl ?_
            rw [h21 _ (by omega) (by omega), (hL.2 _ _ hb).1]
            refine tt_al0 (q := 105) hc dX9_leads_104 rfl ?_
            refine tt_getR (q := 108) hc fl_X9_42 (by first | assumption | exact ⟨by decide, _, rfl, rfl⟩) dX9_leads_105 rfl ?_
            refine tt_il1 (q := 109) hc dX9_leads_108 rfl ?_
            refine tt_aald (q := 110) hc (r := _) (by first | assumption | exact ⟨by decide, rfl, by decide⟩) (by decide) (by omega) dX9_leads_109 rfl ?_
            refine tt_il5 (q := 112) hc dX9_leads_110 rfl ?_
            refine tt_iald (q := 113) hc (by first | assumption | exact ⟨by decide, rfl, by decide⟩) (by omega) dX9_leads_112 rfl ?_
            rw [h21 _ (by omega) (by omega), (hL.2 _ _ hb).2]
            refine tt_cV3 (q := 116) (d' := 0) (ci := 9) hc (by first | decide | omega) kmX9_does ml_X9_210 (by first | assumption | exact ⟨by decide, _, rfl⟩) rfl (Nat.le_of_ble_eq_true rfl) dX9_leads_113 rfl ?_
            refine c_X9_does ad1 hK hB2 hm.2.1 rfl hm.2.2 (fun ν3 hf3 hB3 => ?_)
            have hfa : lfr d ν ν3 := (lfr.row (v := nI dn.length)).tr ((lfr.th (by omega) hf2).tr (lfr.th (by omega) hf3))
            have hfm := (hf.tr hfa).1
            have z3 : ν3 24 0 = nI K := by rw [hfm.2 0 (by decide)]; exact hz
            have hG3 : BA ν3 g G := hG.mf hfm (fun z => by simp [mwL] at z; omega) (by omega)
            have hL3 : FL ν3 d K B := by
              unfold FL
              rw [hf3 32 (by simp; omega), h21 32 (by omega) (by omega), hf3 (100 + d) (by simp; omega), h21 (100 + d) (by omega) (by omega), hf3 (104 + d) (by simp; omega), h21 (104 + d) (by omega) (by omega)]
              exact hL
            have e36 : ν3 36 d = nI dn.length := by rw [hf3 36 (by simp; omega), hf2 36 (by simp; omega), mset_eq, pk_us]
            dsimp only [Option.toList, List.nil_append, List.cons_append]
            refine tt_al0 (q := 117) hc dX9_leads_116 rfl ?_
            refine tt_il1 (q := 118) hc dX9_leads_117 rfl ?_
            refine tt_iconst (v := nI 1) (q := 119) hc rfl dX9_leads_118 rfl ?_
            first | (with_reducible refine chk2 ?_; refine tt_iaddN (q := 120) hc dX9_leads_119 rfl ?_) | refine tt_iadd (q := 120) hc dX9_leads_119 rfl ?_
            refine tt_il2 (q := 121) hc dX9_leads_120 rfl ?_
            refine tt_al3 (q := 122) hc dX9_leads_121 rfl ?_
            refine tt_il4 (q := 124) hc dX9_leads_122 rfl ?_
            refine tt_cV4 (q := 127) (d' := n + 4) (ci := 9) hc (by first | decide | omega) kmX9_leads ml_X9_224 (by first | assumption | exact ⟨by decide, _, rfl⟩) rfl (Nat.le_of_ble_eq_true rfl) dX9_leads_124 rfl ?_
            refine ihn len (d + 1) (flp K B b) ν3 _ (by omega) h3 (flp_ok hK hm.2.1) hB3 hG3 z3 (fun ν4 hf4 hS4 => ?_)
            rw [hr] at hS4 ⊢
            dsimp only [Option.toList, List.nil_append, List.cons_append]
            first | (with_reducible refine chkb ?_; refine tt_ifeqB (t := 132) (q := 130) hc dX9_leads_127 rfl rfl (fun c_127 => ?_) (fun c_127 => ?_)) | (with_reducible refine chk1 ?_; refine tt_ifeqN (t := 132) (q := 130) hc (by omega) dX9_leads_127 rfl rfl (fun c_127 => ?_) (fun c_127 => ?_)) | refine tt_ifeq (t := 132) (q := 130) hc dX9_leads_127 rfl rfl (fun c_127 => ?_) (fun c_127 => ?_)
            · first | refine tt_inc5 (q := 135) hc dX9_leads_132 rfl (by decide) (incN _) ?_ | refine tt_inc5 (q := 135) hc dX9_leads_132 rfl (by decide) rfl ?_
              refine tt_goto (t := 30) hc dX9_leads_135 rfl ?_
              first
              | (have z : pop (prt K B b) < lst := c_55
                 rw [if_neg (show ¬ lst ≤ pop (prt K B b) by omega)] at h
                 rw [← snoc_len dn b]
                 refine ih (dn ++ [b]) ν (by rw [snoc_app]; exact hdn) hf hL ?_
                 rw [snoc_len]
                 exact h)
              | (have rn : r0 = none := by cases r0; rfl; cases c_127
                 subst rn
                 rw [if_pos c_55] at h
                 rw [← snoc_len dn b]
                 refine ih (dn ++ [b]) ν4 (by rw [snoc_app]; exact hdn) (hf.tr (hfa.tr hf4.lo)) (hf4.fl hL3) ?_
                 rw [snoc_len]
                 exact h)
            · refine tt_iconst (v := nI 1) (q := 131) hc rfl dX9_leads_130 rfl ?_
              refine tt_retz hX rfl (by first | decide | exact bI_01 _) dX9_leads_131 ?_
              obtain ⟨p, rfl⟩ := Option.isSome_iff_exists.mp c_127
              rw [if_pos c_55] at h
              refine h ν4 (hf.tr (hfa.tr hf4.lo)) (fun p' z j x q => ?_)
              cases z
              cases j with
              | zero =>
                simp only [List.getElem?_cons_zero, Option.some.injEq] at q
                rw [← q, Nat.add_zero, (hf4.2.2 d (Nat.lt_succ_self d)).2.2.2]
                exact e36
              | succ j =>
                simp only [List.getElem?_cons_succ] at q
                rw [show d + (j + 1) = d + 1 + j by omega]
                exact hS4 p rfl j x q
          · refine tt_goto (t := 132) hc dX9_leads_58 rfl ?_
            first | refine tt_inc5 (q := 135) hc dX9_leads_132 rfl (by decide) (incN _) ?_ | refine tt_inc5 (q := 135) hc dX9_leads_132 rfl (by decide) rfl ?_
            refine tt_goto (t := 30) hc dX9_leads_135 rfl ?_
            first
            | (have z : pop (prt K B b) < lst := c_55
               rw [if_neg (show ¬ lst ≤ pop (prt K B b) by omega)] at h
               rw [← snoc_len dn b]
               refine ih (dn ++ [b]) ν (by rw [snoc_app]; exact hdn) hf hL ?_
               rw [snoc_len]
               exact h)
            | (have rn : r0 = none := by cases r0; rfl; cases c_127
               subst rn
               rw [if_pos c_55] at h
               rw [← snoc_len dn b]
               refine ih (dn ++ [b]) ν4 (by rw [snoc_app]; exact hdn) (hf.tr (hfa.tr hf4.lo)) (hf4.fl hL3) ?_
               rw [snoc_len]
               exact h)
    refine tt_il1 (q := 1) hc dX9_leads_0 rfl ?_
    refine tt_il2 (q := 2) hc dX9_leads_1 rfl ?_
    first | (with_reducible refine chk2 ?_; refine tt_icneN (t := 16) (q := 5) hc (by omega) (by omega) dX9_leads_2 rfl rfl (fun c_2 => ?_) (fun c_2 => ?_)) | refine tt_icne (t := 16) (q := 5) hc dX9_leads_2 rfl rfl (fun c_2 => ?_) (fun c_2 => ?_)
    · refine tt_al0 (q := 17) hc dX9_leads_16 rfl ?_
      refine tt_al0 (q := 18) hc dX9_leads_17 rfl ?_
      refine tt_getR (q := 21) hc fl_X9_48 (by first | assumption | exact ⟨by decide, _, rfl, rfl⟩) dX9_leads_18 rfl ?_
      refine tt_il1 (q := 22) hc dX9_leads_21 rfl ?_
      refine tt_aald (q := 23) hc (r := _) (by first | assumption | exact ⟨by decide, rfl, by decide⟩) (by decide) (by omega) dX9_leads_22 rfl ?_
      refine tt_il1 (q := 24) hc dX9_leads_23 rfl ?_
      refine tt_cV2 (q := 27) (d' := 3) (ci := 9) hc (by first | decide | omega) kmX9_layFlips ml_X9_203 (by first | assumption | exact ⟨by decide, _, rfl⟩) rfl (Nat.le_of_ble_eq_true rfl) dX9_leads_24 rfl ?_
      refine c_X9_layFlips ad (by omega) (by omega) hK hB hz (fun ν hf h32 hF hL => ?_)
      dsimp only [Option.toList, List.nil_append, List.cons_append]
      refine tt_iconst (v := nI 0) (q := 28) hc rfl dX9_leads_27 rfl ?_
      refine tt_is5 (q := 30) hc dX9_leads_28 rfl (by decide) ?_
      exact L (fl K B) [] ν (List.nil_append _) (lfr.lay (by omega) hf h32) hL hQ
    · omega
set_option maxHeartbeats 4000000 in
theorem c_X9_chain {l : Launch} {v w i : Int32} {S : ST} {μ : Mem} {Q : Option Value → Mem → Prop} (hM : MR μ S) (hQ : ∀ μ', frm mL μ μ' → MR μ' S → Q (some (.int (an_chain v w i S))) μ') : CC l 8 mX9_chain [.ref 24, .int v, .int w, .int i] μ Q := by
  refine CC.of (M := mX9_chain) (by decide +kernel) rfl (fun v h => by simp at h; rcases h with rfl | rfl | rfl | rfl <;> rfl) (Nat.le_of_ble_eq_true rfl) (fun X hX => ?_)
  have hc := hX.cx
  obtain ⟨K, B, hs, ks, im, ls, tx, pp⟩ := S
  obtain ⟨⟨a0, a1, a2⟩, -, a4, -⟩ := id hM
  have q34 := HQ34
  have q33 := HQ33
  have a35 := HA35
  have a36 := HA36
  have a77 := HA77
  have a87 := HA87
  dsimp only [an_chain] at hQ
  rcases kpt_iff (v := v) a4.1 with ⟨a, q, hi4, hv, hk, hq, hin⟩ | ⟨hk, hin⟩
  · obtain ⟨g1, g2, g3⟩ := a4.2.2.1 a q hq
    have hK1 := a0.1
    have hK2 := g3.1
    rw [hk] at hQ
    dsimp only at hQ
    rw [hq] at hQ
    subst hv
    have P0 : ∀ (j : Nat) (ν : Mem), Q (some (.int (chI none i))) ν → TT X 88 [.ref 24, .int (nI a), .int (nI j), .int i, .int (nI 4)] [] ν := by
      intro j ν h
      have h : Q (some (.int (-5))) ν := by
        unfold chI at h
        split at h <;> exact h
      refine tt_il4 (q := 90) hc dX9_chain_88 rfl ?_
      refine tt_iconst (v := nI 3) (q := 91) hc rfl dX9_chain_90 rfl ?_
      first | (with_reducible refine chk2 ?_; refine tt_icleN (t := 97) (q := 94) hc (by omega) (by omega) dX9_chain_91 rfl rfl (fun c_91 => ?_) (fun c_91 => ?_)) | refine tt_icle (t := 97) (q := 94) hc dX9_chain_91 rfl rfl (fun c_91 => ?_) (fun c_91 => ?_)
      · omega
      · refine tt_bipush (v := -5) (q := 96) hc (by decide) dX9_chain_94 rfl ?_
        refine tt_reti hX rfl dX9_chain_96 ?_
        exact h
    have P1 : ∀ (j : Nat) (ν : Mem) (p : List Nat), ¬ i < -1 → p.length ≤ 3 → (∀ k x, p[k]? = some x → ν 36 k = nI x) → Q (some (.int (chI (some p) i))) ν → TT X 88 [.ref 24, .int (nI a), .int (nI j), .int i, .int (nI p.length)] [] ν := by
      intro j ν p hi hl hp h
      unfold chI at h
      by_cases e : i = -1
      · rw [if_pos e] at h
        refine tt_il4 (q := 90) hc dX9_chain_88 rfl ?_
        refine tt_iconst (v := nI 3) (q := 91) hc rfl dX9_chain_90 rfl ?_
        first | (with_reducible refine chk2 ?_; refine tt_icleN (t := 97) (q := 94) hc (by omega) (by omega) dX9_chain_91 rfl rfl (fun c_91 => ?_) (fun c_91 => ?_)) | refine tt_icle (t := 97) (q := 94) hc dX9_chain_91 rfl rfl (fun c_91 => ?_) (fun c_91 => ?_)
        · refine tt_il3 (q := 98) hc dX9_chain_97 rfl ?_
          refine tt_ifge (t := 106) (q := 101) hc dX9_chain_98 rfl rfl (fun c_98 => ?_) (fun c_98 => ?_)
          · (rw [e] at c_98; exact absurd c_98 (by decide))
          · refine tt_il4 (q := 103) hc dX9_chain_101 rfl ?_
            refine tt_goto (t := 123) hc dX9_chain_103 rfl ?_
            refine tt_reti hX rfl dX9_chain_123 ?_
            exact h
        · omega
      · rw [if_neg e] at h
        obtain ⟨k, hk31, rfl⟩ := nI_of (show ¬ i < 0 from fun z => nolow z hi e)
        dsimp only at h
        rw [nI_clamp hk31] at h
        refine tt_il4 (q := 90) hc dX9_chain_88 rfl ?_
        refine tt_iconst (v := nI 3) (q := 91) hc rfl dX9_chain_90 rfl ?_
        first | (with_reducible refine chk2 ?_; refine tt_icleN (t := 97) (q := 94) hc (by omega) (by omega) dX9_chain_91 rfl rfl (fun c_91 => ?_) (fun c_91 => ?_)) | refine tt_icle (t := 97) (q := 94) hc dX9_chain_91 rfl rfl (fun c_91 => ?_) (fun c_91 => ?_)
        · refine tt_il3 (q := 98) hc dX9_chain_97 rfl ?_
          refine tt_ifgeN (t := 106) (q := 101) hc (by omega) dX9_chain_98 rfl rfl ?_
          refine tt_il3 (q := 107) hc dX9_chain_106 rfl ?_
          refine tt_il4 (q := 109) hc dX9_chain_107 rfl ?_
          first | (with_reducible refine chk2 ?_; refine tt_icgeN (t := 121) (q := 112) hc (by omega) (by omega) dX9_chain_109 rfl rfl (fun c_109 => ?_) (fun c_109 => ?_)) | refine tt_icge (t := 121) (q := 112) hc dX9_chain_109 rfl rfl (fun c_109 => ?_) (fun c_109 => ?_)
          · refine tt_bipush (v := -5) (q := 123) hc (by decide) dX9_chain_121 rfl ?_
            refine tt_reti hX rfl dX9_chain_123 ?_
            first
            | exact h
            | (rw [if_neg (fun z => Nat.not_lt.mpr c_109 ((nI_ltI hk31 (by omega)).mp z))] at h; exact h)
          · have hkl : k < p.length := by omega
            have hv := hp k _ (List.getElem?_eq_getElem hkl)
            rw [if_pos ((nI_ltI hk31 (by omega)).mpr hkl), List.getD_eq_getElem?_getD, List.getElem?_eq_getElem hkl] at h
            refine tt_al0 (q := 113) hc dX9_chain_112 rfl ?_
            refine tt_getR (q := 116) hc fl_X9_57 (by first | assumption | exact ⟨by decide, _, rfl, rfl⟩) dX9_chain_113 rfl ?_
            refine tt_il3 (q := 117) hc dX9_chain_116 rfl ?_
            refine tt_ialdE (q := 118) hc a36 (by omega) hv dX9_chain_117 rfl ?_
            refine tt_goto (t := 123) hc dX9_chain_118 rfl ?_
            refine tt_reti hX rfl dX9_chain_123 ?_
            first
            | exact h
            | (rw [if_neg (fun z => Nat.not_lt.mpr c_109 ((nI_ltI hk31 (by omega)).mp z))] at h; exact h)
        · omega
    have M1 : i < -1 → TT X 8 [.ref 24, .int (nI a), .int w, .int i, .long 0] [] μ := by
      intro hi
      rw [if_pos hi] at hQ
      refine tt_il3 (q := 9) hc dX9_chain_8 rfl ?_
      refine tt_iconst (v := -1) (q := 10) hc rfl dX9_chain_9 rfl ?_
      first | (with_reducible refine chk2 ?_; refine tt_icgeN (t := 15) (q := 13) hc (by omega) (by omega) dX9_chain_10 rfl rfl (fun c_10 => ?_) (fun c_10 => ?_)) | refine tt_icge (t := 15) (q := 13) hc dX9_chain_10 rfl rfl (fun c_10 => ?_) (fun c_10 => ?_)
      · exact absurd hi (Int32.not_lt.mpr c_10)
      · refine tt_iconst (v := -1) (q := 14) hc rfl dX9_chain_13 rfl ?_
        refine tt_reti hX rfl dX9_chain_14 ?_
        exact hQ μ frm.rf hM
    have M2 : ¬ i < -1 → TT X 8 [.ref 24, .int (nI a), .int w, .int i, .long 0] [] μ := by
      intro hi
      rw [if_neg hi] at hQ
      have L : ∀ (j : Nat), j ≤ 2 → q.1 = K → ∀ (m n : Nat) (ν : Mem), n + m = 4 → mf mwL μ ν → BA ν 87 B → (∀ μ', mf mwL μ μ' → Q (some (.int (chI (chnL K q.2 j B m n) i))) μ') → TT X 59 [.ref 24, .int (nI a), .int (nI j), .int i, .int (nI n)] [] ν := by
        intro j hj hqK m
        induction m with
        | zero =>
          intro n ν hn hf hB h
          have hn : n = 4 := by omega
          subst hn
          refine tt_il4 (q := 61) hc dX9_chain_59 rfl ?_
          refine tt_iconst (v := nI 3) (q := 62) hc rfl dX9_chain_61 rfl ?_
          first | (with_reducible refine chk2 ?_; refine tt_icgtN (t := 88) (q := 65) hc (by omega) (by omega) dX9_chain_62 rfl rfl (fun c_62 => ?_) (fun c_62 => ?_)) | refine tt_icgt (t := 88) (q := 65) hc dX9_chain_62 rfl rfl (fun c_62 => ?_) (fun c_62 => ?_)
          · exact P0 j ν (h ν hf)
          · omega
        | succ m ih =>
          intro n ν hn hf hB h
          rw [chnL, rch_urch n B a0] at h
          have hlen := fun p => rch_len (K := K) (G := q.2) (lst := j) n B p
          rw [rch_urch n B a0] at hlen
          generalize hr : urch K q.2 j n B = r at h hlen
          have z : ν 24 0 = nI K := by rw [hf.2 0 (by decide)]; exact a1
          have hG : BA ν (91 + a) q.2 := g1.mf hf (fun z => by simp [mwL] at z; omega) (by omega)
          refine tt_il4 (q := 61) hc dX9_chain_59 rfl ?_
          refine tt_iconst (v := nI 3) (q := 62) hc rfl dX9_chain_61 rfl ?_
          first | (with_reducible refine chk2 ?_; refine tt_icgtN (t := 88) (q := 65) hc (by omega) (by omega) dX9_chain_62 rfl rfl (fun c_62 => ?_) (fun c_62 => ?_)) | refine tt_icgt (t := 88) (q := 65) hc dX9_chain_62 rfl rfl (fun c_62 => ?_) (fun c_62 => ?_)
          · omega
          · refine tt_al0 (q := 66) hc dX9_chain_65 rfl ?_
            refine tt_iconst (v := nI 0) (q := 67) hc rfl dX9_chain_66 rfl ?_
            refine tt_il4 (q := 69) hc dX9_chain_67 rfl ?_
            refine tt_al0 (q := 70) hc dX9_chain_69 rfl ?_
            refine tt_getR (q := 73) hc fl_X9_51 (by first | assumption | exact ⟨by decide, _, rfl, rfl⟩) dX9_chain_70 rfl ?_
            refine tt_il1 (q := 74) hc dX9_chain_73 rfl ?_
            refine tt_aald (q := 75) hc (r := _) (by first | assumption | exact ⟨by decide, rfl, by decide⟩) (by decide) (by omega) dX9_chain_74 rfl ?_
            refine tt_il2 (q := 76) hc dX9_chain_75 rfl ?_
            refine tt_cV4 (q := 79) (d' := n + 4) (ci := 9) hc (by first | decide | omega) kmX9_leads ml_X9_224 (by first | assumption | exact ⟨by decide, _, rfl⟩) rfl (Nat.le_of_ble_eq_true rfl) dX9_chain_76 rfl ?_
            refine c_X9_leads (by omega) hj n n 0 B ν _ (by omega) (by omega) a0 hB hG z (fun ν2 hf2 hS2 => ?_)
            rw [hr] at hS2 ⊢
            dsimp only [Option.toList, List.nil_append, List.cons_append]
            first | (with_reducible refine chkb ?_; refine tt_ifneB (t := 88) (q := 82) hc dX9_chain_79 rfl rfl (fun c_79 => ?_) (fun c_79 => ?_)) | (with_reducible refine chk1 ?_; refine tt_ifneN (t := 88) (q := 82) hc (by omega) dX9_chain_79 rfl rfl (fun c_79 => ?_) (fun c_79 => ?_)) | refine tt_ifne (t := 88) (q := 82) hc dX9_chain_79 rfl rfl (fun c_79 => ?_) (fun c_79 => ?_)
            · obtain ⟨p, rfl⟩ := Option.isSome_iff_exists.mp c_79
              rw [← hlen p rfl]
              exact P1 j ν2 p hi (by rw [hlen p rfl]; omega) (fun k x hx => by have := hS2 p rfl k x hx; rw [Nat.zero_add] at this; exact this) (h ν2 (hf.tr hf2.1))
            · first | refine tt_inc4 (q := 85) hc dX9_chain_82 rfl (by decide) (incN _) ?_ | refine tt_inc4 (q := 85) hc dX9_chain_82 rfl (by decide) rfl ?_
              refine tt_goto (t := 59) hc dX9_chain_85 rfl ?_
              have rn : r = none := by cases r; rfl; cases c_79
              subst rn
              exact ih (n + 1) ν2 (by omega) (hf.tr hf2.1) (fun s hs => by have := hf2.2.1 0 (Nat.le_refl _); rw [Nat.add_zero] at this; rw [this]; exact hB s hs) h
      refine tt_il3 (q := 9) hc dX9_chain_8 rfl ?_
      refine tt_iconst (v := -1) (q := 10) hc rfl dX9_chain_9 rfl ?_
      first | (with_reducible refine chk2 ?_; refine tt_icgeN (t := 15) (q := 13) hc (by omega) (by omega) dX9_chain_10 rfl rfl (fun c_10 => ?_) (fun c_10 => ?_)) | refine tt_icge (t := 15) (q := 13) hc dX9_chain_10 rfl rfl (fun c_10 => ?_) (fun c_10 => ?_)
      · refine tt_il2 (q := 16) hc dX9_chain_15 rfl ?_
        refine tt_iconst (v := nI 1) (q := 17) hc rfl dX9_chain_16 rfl ?_
        refine tt_iconst (v := nI 2) (q := 18) hc rfl dX9_chain_17 rfl ?_
        refine tt_cS3 (q := 21) (d' := 0) hc (by first | decide | omega) kmX9_in ml_X9_91 (Nat.le_of_ble_eq_true rfl) dX9_chain_18 rfl ?_
        refine c_X9_in ?_
        dsimp only [Option.toList, List.nil_append, List.cons_append]
        first | (with_reducible refine chkb ?_; refine tt_ifneB (t := 27) (q := 24) hc dX9_chain_21 rfl rfl (fun c_21 => ?_) (fun c_21 => ?_)) | (with_reducible refine chk1 ?_; refine tt_ifneN (t := 27) (q := 24) hc (by omega) dX9_chain_21 rfl rfl (fun c_21 => ?_) (fun c_21 => ?_)) | refine tt_ifne (t := 27) (q := 24) hc dX9_chain_21 rfl rfl (fun c_21 => ?_) (fun c_21 => ?_)
        · rw [if_pos c_21] at hQ
          dsimp only at hQ
          obtain ⟨j, -, hj, rfl⟩ := inB_t (by decide) (by decide) c_21
          rw [nI_clamp (by omega)] at hQ
          refine tt_al0 (q := 28) hc dX9_chain_27 rfl ?_
          refine tt_getR (q := 31) hc fl_X9_54 (by first | assumption | exact ⟨by decide, _, rfl, rfl⟩) dX9_chain_28 rfl ?_
          refine tt_il1 (q := 32) hc dX9_chain_31 rfl ?_
          refine tt_iald (q := 33) hc (by first | assumption | exact ⟨by decide, rfl, by decide⟩) (by omega) dX9_chain_32 rfl ?_
          rw [g2]
          refine tt_al0 (q := 34) hc dX9_chain_33 rfl ?_
          refine tt_getI (q := 37) hc fl_X9_9 (by first | assumption | exact ⟨by decide, _, rfl, _, rfl⟩) dX9_chain_34 rfl ?_
          rw [a1]
          first | (with_reducible refine chk2 ?_; refine tt_iceqN (t := 43) (q := 40) hc (by omega) (by omega) dX9_chain_37 rfl rfl (fun c_37 => ?_) (fun c_37 => ?_)) | refine tt_iceq (t := 43) (q := 40) hc dX9_chain_37 rfl rfl (fun c_37 => ?_) (fun c_37 => ?_)
          · refine tt_iconst (v := nI 0) (q := 44) hc rfl dX9_chain_43 rfl ?_
            refine tt_is4 (q := 46) hc dX9_chain_44 rfl (by decide) ?_
            refine tt_al0 (q := 47) hc dX9_chain_46 rfl ?_
            refine tt_getR (q := 50) hc fl_X9_15 (by first | assumption | exact ⟨by decide, _, rfl, rfl⟩) dX9_chain_47 rfl ?_
            refine tt_al0 (q := 51) hc dX9_chain_50 rfl ?_
            refine tt_getR (q := 54) hc fl_X9_48 (by first | assumption | exact ⟨by decide, _, rfl, rfl⟩) dX9_chain_51 rfl ?_
            refine tt_iconst (v := nI 0) (q := 55) hc rfl dX9_chain_54 rfl ?_
            refine tt_aald (q := 56) hc (r := _) (by first | assumption | exact ⟨by decide, rfl, by decide⟩) (by decide) (by omega) dX9_chain_55 rfl ?_
            refine tt_cS2 (q := 59) (d' := 1) hc (by first | decide | omega) kmX9_lays ml_X9_123 (Nat.le_of_ble_eq_true rfl) dX9_chain_56 rfl ?_
            refine c_X9_lays a77 a87 a2 (fun ν hf hB => ?_)
            dsimp only [Option.toList, List.nil_append, List.cons_append]
            rw [if_pos c_37] at hQ
            exact L j hj c_37 4 0 ν rfl (f87_mwl hf) hB (fun μ' h => hQ μ' (mwl_ml h) (mwl_wk hM h))
          · refine tt_bipush (v := -3) (q := 42) hc (by decide) dX9_chain_40 rfl ?_
            refine tt_reti hX rfl dX9_chain_42 ?_
            rw [if_neg c_37] at hQ
            exact hQ μ frm.rf hM
        · refine tt_bipush (v := -2) (q := 26) hc (by decide) dX9_chain_24 rfl ?_
          refine tt_reti hX rfl dX9_chain_26 ?_
          rw [if_neg (by rw [c_21]; exact Bool.false_ne_true)] at hQ
          exact hQ μ frm.rf hM
      · exact absurd (Int32.not_le.mp c_10) hi
    refine tt_al0 (q := 1) hc dX9_chain_0 rfl ?_
    refine tt_il1 (q := 2) hc dX9_chain_1 rfl ?_
    refine tt_cV1 (q := 5) (d' := 1) (ci := 9) hc (by first | decide | omega) kmX9_isKept ml_X9_217 (by first | assumption | exact ⟨by decide, _, rfl⟩) rfl (Nat.le_of_ble_eq_true rfl) dX9_chain_2 rfl ?_
    refine c_X9_isKept a4 ?_
    rw [hin]
    dsimp only [Option.toList, List.nil_append, List.cons_append]
    first | (with_reducible refine chkb ?_; refine tt_ifeqB (t := 13) (q := 8) hc dX9_chain_5 rfl rfl (fun c_5 => ?_) (fun c_5 => ?_)) | (with_reducible refine chk1 ?_; refine tt_ifeqN (t := 13) (q := 8) hc (by omega) dX9_chain_5 rfl rfl (fun c_5 => ?_) (fun c_5 => ?_)) | refine tt_ifeq (t := 13) (q := 8) hc dX9_chain_5 rfl rfl (fun c_5 => ?_) (fun c_5 => ?_)
    · exact absurd c_5 (by decide)
    · by_cases hi : i < -1
      · exact M1 hi
      · exact M2 hi
  · rw [hk] at hQ
    refine tt_al0 (q := 1) hc dX9_chain_0 rfl ?_
    refine tt_il1 (q := 2) hc dX9_chain_1 rfl ?_
    refine tt_cV1 (q := 5) (d' := 1) (ci := 9) hc (by first | decide | omega) kmX9_isKept ml_X9_217 (by first | assumption | exact ⟨by decide, _, rfl⟩) rfl (Nat.le_of_ble_eq_true rfl) dX9_chain_2 rfl ?_
    refine c_X9_isKept a4 ?_
    rw [hin]
    dsimp only [Option.toList, List.nil_append, List.cons_append]
    first | (with_reducible refine chkb ?_; refine tt_ifeqB (t := 13) (q := 8) hc dX9_chain_5 rfl rfl (fun c_5 => ?_) (fun c_5 => ?_)) | (with_reducible refine chk1 ?_; refine tt_ifeqN (t := 13) (q := 8) hc (by omega) dX9_chain_5 rfl rfl (fun c_5 => ?_) (fun c_5 => ?_)) | refine tt_ifeq (t := 13) (q := 8) hc dX9_chain_5 rfl rfl (fun c_5 => ?_) (fun c_5 => ?_)
    · refine tt_iconst (v := -1) (q := 14) hc rfl dX9_chain_13 rfl ?_
      refine tt_reti hX rfl dX9_chain_14 ?_
      exact hQ μ frm.rf hM
    · exact absurd c_5 (by decide)
