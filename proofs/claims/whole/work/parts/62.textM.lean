/-! THE MODEL: its text: letters, digits, words -/
theorem wX_ldcw {p : Program} {l : Launch} {e : Env} {R : Room} {s : State} {m : MethodId} {args : Array Value} {below : List Frame} {meth : Method} {c : Code} {T : State} {locs : List Loc} {cells slots : Nat}
    (X : Stand p l e R s m args below meth c T locs cells slots) (hexec : p.tables.exec = Jvm.exec) {own text : String} {index : Nat} {a : Addr} (hown : s.vm.findClass own = some m.cls)
    (hconst : (Cond.stringRef own index text).before args s = true) (hev : (Term.string own index).eval args s none [] s = some (.ref a)) {g : JFrame} (hg : g.method = m) (hdg : decode c.code g.pc = .ok (.ldc_w index, 3)) :
    ∀ target, Steps p.tables e below (T.setTop { g with pc := g.pc + 3, stack := .ref a :: g.stack }) target → Steps p.tables e below (T.setTop g) target := by
  obtain ⟨k, cf, i, a', hk, hcf, hcp, -, hr, hev'⟩ := Cond.stringRef_spec hown hconst
  cases hev.symm.trans hev'
  obtain ⟨k', hk', he⟩ := X.warmed.alike.2.2 _ _ hk
  have hr' : k'.resolved[index]? = some (some (.string a)) := by
    rcases X.warmed.entry hk hk' index with h | ⟨h, -⟩
    · rw [h]; exact hr
    · rw [hr] at h; cases h
  intro target hrest
  subst hg
  jvm_step X.here [hexec, hdg, ldc_w.wp_string (e := e) (s := T) (f := g) X.here.top hk' (by rw [he]; exact hcf) hcp hr']
  exact hrest
theorem tt_ldcSw {X : XT} {l : Launch} {d : Nat} {M : MD} (hX : Cx X l d M) {pc q : Nat} {L S : List Value} {μ : Mem} {idx w : Nat} (hw : (M.2.2.2.2, idx, w) ∈ litR) (hd : decode M.2.1 pc = .ok (.ldc_w idx, 3)) (hq : pc + 3 = q) (kk : TT X q L (.ref (112 + 2 * w) :: S) μ) : TT X pc L S μ := by
  obtain ⟨p, l', e, R, s, m, args, below, meth, c, Z, ce, sl, g, M', n0⟩ := X
  obtain ⟨rfl, rfl, rfl, hx, hb, hml, ho, hts, hK, hSS, hg, hfr, hlo, hce, hsl⟩ := hX
  subst hq
  intro H locs ls hP hS hl
  intro T hT Y
  obtain ⟨t, a1, b1⟩ := kk H locs ls hP hS hl T hT Y
  have hZ := hK.2.2 _ hw
  exact ⟨t, wX_ldcw Y hx ho hZ.1 hZ.2 (g := F0 m pc ls (S.map (tv g))) rfl (by rw [hb]; exact hd) t a1, b1⟩
def sw (w : Nat) : Nat := if w = 8 then 9 else if w = 9 then 8 else w
theorem sw_lt {w : Nat} (h : w < 12) : sw w < 12 := by
  unfold sw
  split
  · omega
  · split <;> omega
theorem sw_sw (w : Nat) : sw (sw w) = w := by
  unfold sw
  by_cases h1 : w = 8
  · subst h1
    decide
  · by_cases h2 : w = 9
    · subst h2
      decide
    · rw [if_neg h1, if_neg h2, if_neg h1, if_neg h2]
set_option maxHeartbeats 4000000 in
theorem c_X9_wordOf {l : Launch} {w : Nat} {μ : Mem} {Q : Option Value → Mem → Prop} (hw : w < 12) (hQ : Q (some (.ref (112 + 2 * sw w))) μ) : CC l 0 mX9_wordOf [.int (nI w)] μ Q := by
  refine CC.of (M := mX9_wordOf) (by decide +kernel) rfl (fun v h => by simp at h; subst h; rfl) (Nat.le_of_ble_eq_true rfl) (fun X hX => ?_)
  have hc := hX.cx
  refine tt_il0 (q := 1) hc dX9_wordOf_0 rfl ?_
  rcases (show w = 0 ∨ w = 1 ∨ w = 2 ∨ w = 3 ∨ w = 4 ∨ w = 5 ∨ w = 6 ∨ w = 7 ∨ w = 8 ∨ w = 9 ∨ w = 10 ∨ w = 11 by omega) with rfl | rfl | rfl | rfl | rfl | rfl | rfl | rfl | rfl | rfl | rfl | rfl
  · refine tt_tswI (t := 60) hc dX9_wordOf_1 (by decide) (by decide) rfl rfl ?_
    refine tt_ldcS (q := 62) (w := 0) hc (List.mem_of_getElem? (i := 12) rfl) dX9_wordOf_60 rfl ?_
    exact tt_reta hX rfl (Or.inr ⟨_, rfl⟩) dX9_wordOf_62 hQ
  · refine tt_tswI (t := 63) hc dX9_wordOf_1 (by decide) (by decide) rfl rfl ?_
    refine tt_ldcS (q := 65) (w := 1) hc (List.mem_of_getElem? (i := 13) rfl) dX9_wordOf_63 rfl ?_
    exact tt_reta hX rfl (Or.inr ⟨_, rfl⟩) dX9_wordOf_65 hQ
  · refine tt_tswI (t := 66) hc dX9_wordOf_1 (by decide) (by decide) rfl rfl ?_
    refine tt_ldcS (q := 68) (w := 2) hc (List.mem_of_getElem? (i := 14) rfl) dX9_wordOf_66 rfl ?_
    exact tt_reta hX rfl (Or.inr ⟨_, rfl⟩) dX9_wordOf_68 hQ
  · refine tt_tswI (t := 69) hc dX9_wordOf_1 (by decide) (by decide) rfl rfl ?_
    refine tt_ldcS (q := 71) (w := 3) hc (List.mem_of_getElem? (i := 15) rfl) dX9_wordOf_69 rfl ?_
    exact tt_reta hX rfl (Or.inr ⟨_, rfl⟩) dX9_wordOf_71 hQ
  · refine tt_tswI (t := 72) hc dX9_wordOf_1 (by decide) (by decide) rfl rfl ?_
    refine tt_ldcS (q := 74) (w := 4) hc (List.mem_of_getElem? (i := 16) rfl) dX9_wordOf_72 rfl ?_
    exact tt_reta hX rfl (Or.inr ⟨_, rfl⟩) dX9_wordOf_74 hQ
  · refine tt_tswI (t := 75) hc dX9_wordOf_1 (by decide) (by decide) rfl rfl ?_
    refine tt_ldcS (q := 77) (w := 5) hc (List.mem_of_getElem? (i := 17) rfl) dX9_wordOf_75 rfl ?_
    exact tt_reta hX rfl (Or.inr ⟨_, rfl⟩) dX9_wordOf_77 hQ
  · refine tt_tswI (t := 78) hc dX9_wordOf_1 (by decide) (by decide) rfl rfl ?_
    refine tt_ldcSw (q := 81) (w := 6) hc (List.mem_of_getElem? (i := 18) rfl) dX9_wordOf_78 rfl ?_
    exact tt_reta hX rfl (Or.inr ⟨_, rfl⟩) dX9_wordOf_81 hQ
  · refine tt_tswI (t := 82) hc dX9_wordOf_1 (by decide) (by decide) rfl rfl ?_
    refine tt_ldcSw (q := 85) (w := 7) hc (List.mem_of_getElem? (i := 19) rfl) dX9_wordOf_82 rfl ?_
    exact tt_reta hX rfl (Or.inr ⟨_, rfl⟩) dX9_wordOf_85 hQ
  · refine tt_tswI (t := 86) hc dX9_wordOf_1 (by decide) (by decide) rfl rfl ?_
    refine tt_ldcSw (q := 89) (w := 9) hc (List.mem_of_getElem? (i := 20) rfl) dX9_wordOf_86 rfl ?_
    exact tt_reta hX rfl (Or.inr ⟨_, rfl⟩) dX9_wordOf_89 hQ
  · refine tt_tswI (t := 90) hc dX9_wordOf_1 (by decide) (by decide) rfl rfl ?_
    refine tt_ldcSw (q := 93) (w := 8) hc (List.mem_of_getElem? (i := 21) rfl) dX9_wordOf_90 rfl ?_
    exact tt_reta hX rfl (Or.inr ⟨_, rfl⟩) dX9_wordOf_93 hQ
  · refine tt_tswI (t := 94) hc dX9_wordOf_1 (by decide) (by decide) rfl rfl ?_
    refine tt_ldcSw (q := 97) (w := 10) hc (List.mem_of_getElem? (i := 22) rfl) dX9_wordOf_94 rfl ?_
    exact tt_reta hX rfl (Or.inr ⟨_, rfl⟩) dX9_wordOf_97 hQ
  · refine tt_tswO (t := 98) hc dX9_wordOf_1 (by decide) rfl ?_
    refine tt_ldcSw (q := 101) (w := 11) hc (List.mem_of_getElem? (i := 23) rfl) dX9_wordOf_98 rfl ?_
    exact tt_reta hX rfl (Or.inr ⟨_, rfl⟩) dX9_wordOf_101 hQ
theorem MX.at {μ : Mem} {tx : List Nat} (h : MX μ tx) {i : Nat} (hi : i < tx.length) : μ 38 i = nI (tx.getD i 0) ∧ tx.getD i 0 < 128 := ⟨h.2.2.1 i _ (getD_some hi), h.2.2.2 _ (List.mem_of_getElem? (getD_some hi))⟩
theorem HA38 : HA 38 2 120 := ⟨by decide, rfl, by decide⟩
theorem inB_n {x a b : Nat} (hx : x < 2 ^ 31) (ha : a < 2 ^ 31) (hb : b < 2 ^ 31) : inB (nI x) (nI a) (nI b) = decide (a ≤ x ∧ x ≤ b) := by
  unfold inB
  rw [Bool.eq_iff_iff]
  simp only [Bool.and_eq_true, decide_eq_true_eq]
  rw [nI_leI ha hx, nI_leI hx hb]
set_option maxHeartbeats 1000000 in
theorem c_X9_isLetter {l : Launch} {k : Nat} {tx : List Nat} {μ : Mem} {Q : Option Value → Mem → Prop} (hX6 : MX μ tx) (hk : k < 2 ^ 31) (hQ : Q (some (.int (bI (decide (k < tx.length) && decide (97 ≤ tx.getD k 0 ∧ tx.getD k 0 ≤ 122))))) μ) : CC l 1 mX9_isLetter [.ref 24, .int (nI k)] μ Q := by
  refine CC.of (M := mX9_isLetter) (by decide +kernel) rfl (fun v h => by simp at h; rcases h with rfl | rfl <;> rfl) (Nat.le_of_ble_eq_true rfl) (fun X hX => ?_)
  have hc := hX.cx
  have h1 := hX6.1
  have e19 := hX6.2.1
  have a38 := HA38
  refine tt_il1 (q := 1) hc dX9_isLetter_0 rfl ?_
  refine tt_al0 (q := 2) hc dX9_isLetter_1 rfl ?_
  refine tt_getI (q := 5) hc fl_X9_243 (by first | assumption | exact ⟨by decide, _, rfl, _, rfl⟩) dX9_isLetter_2 rfl ?_
  rw [e19]
  first | (with_reducible refine chk2 ?_; refine tt_icgeN (t := 28) (q := 8) hc (by omega) (by omega) dX9_isLetter_5 rfl rfl (fun c_5 => ?_) (fun c_5 => ?_)) | refine tt_icge (t := 28) (q := 8) hc dX9_isLetter_5 rfl rfl (fun c_5 => ?_) (fun c_5 => ?_)
  · refine tt_iconst (v := nI 0) (q := 29) hc rfl dX9_isLetter_28 rfl ?_
    refine tt_retz hX rfl (by first | decide | exact bI_01 _) dX9_isLetter_29 ?_
    first
    | (rw [decide_eq_true c_5, c_21] at hQ; exact hQ)
    | (have z : ¬ k < tx.length := Nat.not_lt.mpr c_5
       rw [decide_eq_false z, Bool.false_and] at hQ; exact hQ)
  · refine tt_al0 (q := 9) hc dX9_isLetter_8 rfl ?_
    refine tt_getR (q := 12) hc fl_X9_63 (by first | assumption | exact ⟨by decide, _, rfl, rfl⟩) dX9_isLetter_9 rfl ?_
    refine tt_il1 (q := 13) hc dX9_isLetter_12 rfl ?_
    refine tt_bald (q := 14) hc (by first | assumption | exact ⟨by decide, rfl, by decide⟩) (by omega) dX9_isLetter_13 rfl ?_
    rw [(hX6.at (by omega)).1]
    have hb := (hX6.at (i := k) (by omega)).2
    refine tt_bipush (v := nI 97) (q := 16) hc (by decide) dX9_isLetter_14 rfl ?_
    refine tt_bipush (v := nI 122) (q := 18) hc (by decide) dX9_isLetter_16 rfl ?_
    refine tt_cS3 (q := 21) (d' := 0) hc (by first | decide | omega) kmX9_in ml_X9_91 (Nat.le_of_ble_eq_true rfl) dX9_isLetter_18 rfl ?_
    refine c_X9_in ?_
    rw [inB_n (by omega) (by decide) (by decide)]
    dsimp only [Option.toList, List.nil_append, List.cons_append]
    first | (with_reducible refine chkb ?_; refine tt_ifeqB (t := 28) (q := 24) hc dX9_isLetter_21 rfl rfl (fun c_21 => ?_) (fun c_21 => ?_)) | (with_reducible refine chk1 ?_; refine tt_ifeqN (t := 28) (q := 24) hc (by omega) dX9_isLetter_21 rfl rfl (fun c_21 => ?_) (fun c_21 => ?_)) | refine tt_ifeq (t := 28) (q := 24) hc dX9_isLetter_21 rfl rfl (fun c_21 => ?_) (fun c_21 => ?_)
    · refine tt_iconst (v := nI 0) (q := 29) hc rfl dX9_isLetter_28 rfl ?_
      refine tt_retz hX rfl (by first | decide | exact bI_01 _) dX9_isLetter_29 ?_
      first
      | (rw [decide_eq_true c_5, c_21] at hQ; exact hQ)
      | (have z : ¬ k < tx.length := Nat.not_lt.mpr c_5
         rw [decide_eq_false z, Bool.false_and] at hQ; exact hQ)
    · refine tt_iconst (v := nI 1) (q := 25) hc rfl dX9_isLetter_24 rfl ?_
      refine tt_goto (t := 29) hc dX9_isLetter_25 rfl ?_
      refine tt_retz hX rfl (by first | decide | exact bI_01 _) dX9_isLetter_29 ?_
      first
      | (rw [decide_eq_true c_5, c_21] at hQ; exact hQ)
      | (have z : ¬ k < tx.length := Nat.not_lt.mpr c_5
         rw [decide_eq_false z, Bool.false_and] at hQ; exact hQ)
set_option maxHeartbeats 1000000 in
theorem c_X9_isDigit {l : Launch} {k : Nat} {tx : List Nat} {μ : Mem} {Q : Option Value → Mem → Prop} (hX6 : MX μ tx) (hk : k < 2 ^ 31) (hQ : Q (some (.int (bI (decide (k < tx.length) && decide (48 ≤ tx.getD k 0 ∧ tx.getD k 0 ≤ 57))))) μ) : CC l 1 mX9_isDigit [.ref 24, .int (nI k)] μ Q := by
  refine CC.of (M := mX9_isDigit) (by decide +kernel) rfl (fun v h => by simp at h; rcases h with rfl | rfl <;> rfl) (Nat.le_of_ble_eq_true rfl) (fun X hX => ?_)
  have hc := hX.cx
  have h1 := hX6.1
  have e19 := hX6.2.1
  have a38 := HA38
  refine tt_il1 (q := 1) hc dX9_isDigit_0 rfl ?_
  refine tt_al0 (q := 2) hc dX9_isDigit_1 rfl ?_
  refine tt_getI (q := 5) hc fl_X9_243 (by first | assumption | exact ⟨by decide, _, rfl, _, rfl⟩) dX9_isDigit_2 rfl ?_
  rw [e19]
  first | (with_reducible refine chk2 ?_; refine tt_icgeN (t := 28) (q := 8) hc (by omega) (by omega) dX9_isDigit_5 rfl rfl (fun c_5 => ?_) (fun c_5 => ?_)) | refine tt_icge (t := 28) (q := 8) hc dX9_isDigit_5 rfl rfl (fun c_5 => ?_) (fun c_5 => ?_)
  · refine tt_iconst (v := nI 0) (q := 29) hc rfl dX9_isDigit_28 rfl ?_
    refine tt_retz hX rfl (by first | decide | exact bI_01 _) dX9_isDigit_29 ?_
    first
    | (rw [decide_eq_true c_5, c_21] at hQ; exact hQ)
    | (have z : ¬ k < tx.length := Nat.not_lt.mpr c_5
       rw [decide_eq_false z, Bool.false_and] at hQ; exact hQ)
  · refine tt_al0 (q := 9) hc dX9_isDigit_8 rfl ?_
    refine tt_getR (q := 12) hc fl_X9_63 (by first | assumption | exact ⟨by decide, _, rfl, rfl⟩) dX9_isDigit_9 rfl ?_
    refine tt_il1 (q := 13) hc dX9_isDigit_12 rfl ?_
    refine tt_bald (q := 14) hc (by first | assumption | exact ⟨by decide, rfl, by decide⟩) (by omega) dX9_isDigit_13 rfl ?_
    rw [(hX6.at (by omega)).1]
    have hb := (hX6.at (i := k) (by omega)).2
    refine tt_bipush (v := nI 48) (q := 16) hc (by decide) dX9_isDigit_14 rfl ?_
    refine tt_bipush (v := nI 57) (q := 18) hc (by decide) dX9_isDigit_16 rfl ?_
    refine tt_cS3 (q := 21) (d' := 0) hc (by first | decide | omega) kmX9_in ml_X9_91 (Nat.le_of_ble_eq_true rfl) dX9_isDigit_18 rfl ?_
    refine c_X9_in ?_
    rw [inB_n (by omega) (by decide) (by decide)]
    dsimp only [Option.toList, List.nil_append, List.cons_append]
    first | (with_reducible refine chkb ?_; refine tt_ifeqB (t := 28) (q := 24) hc dX9_isDigit_21 rfl rfl (fun c_21 => ?_) (fun c_21 => ?_)) | (with_reducible refine chk1 ?_; refine tt_ifeqN (t := 28) (q := 24) hc (by omega) dX9_isDigit_21 rfl rfl (fun c_21 => ?_) (fun c_21 => ?_)) | refine tt_ifeq (t := 28) (q := 24) hc dX9_isDigit_21 rfl rfl (fun c_21 => ?_) (fun c_21 => ?_)
    · refine tt_iconst (v := nI 0) (q := 29) hc rfl dX9_isDigit_28 rfl ?_
      refine tt_retz hX rfl (by first | decide | exact bI_01 _) dX9_isDigit_29 ?_
      first
      | (rw [decide_eq_true c_5, c_21] at hQ; exact hQ)
      | (have z : ¬ k < tx.length := Nat.not_lt.mpr c_5
         rw [decide_eq_false z, Bool.false_and] at hQ; exact hQ)
    · refine tt_iconst (v := nI 1) (q := 25) hc rfl dX9_isDigit_24 rfl ?_
      refine tt_goto (t := 29) hc dX9_isDigit_25 rfl ?_
      refine tt_retz hX rfl (by first | decide | exact bI_01 _) dX9_isDigit_29 ?_
      first
      | (rw [decide_eq_true c_5, c_21] at hQ; exact hQ)
      | (have z : ¬ k < tx.length := Nat.not_lt.mpr c_5
         rw [decide_eq_false z, Bool.false_and] at hQ; exact hQ)
set_option maxHeartbeats 1000000 in
theorem c_X9_isWord {l : Launch} {w p t : Nat} {tx : List Nat} {μ : Mem} {Q : Option Value → Mem → Prop} (hX6 : MX μ tx) (hat : μ 24 20 = nI p) (hw : w < 12) (hft : p ≤ t) (ht : t ≤ tx.length) (hQ : Q (some (.int (bI (stB tx w p t)))) μ) : CC l 4 mX9_isWord [.ref 24, .ref (112 + 2 * w), .int (nI t)] μ Q := by
  refine CC.of (M := mX9_isWord) (by decide +kernel) rfl (fun v h => by simp at h; rcases h with rfl | rfl | rfl <;> rfl) (Nat.le_of_ble_eq_true rfl) (fun X hX => ?_)
  have hc := hX.cx
  have h1 := hX6.1
  have a38 := HA38
  have hl := (lit_len w hw).1
  rw [stB] at hQ
  have L : ∀ (n i : Nat), i + n = litL.getD w 0 → litL.getD w 0 = t - p → Q (some (.int (bI (eqN tx w p n i)))) μ → TT X 25 [.ref 24, .ref (112 + 2 * w), .int (nI t), .int (nI 1), .int (nI (p + i))] [] μ := by
    intro n
    induction n with
    | zero =>
      intro i hi hlt h
      refine tt_il3 (q := 26) hc dX9_isWord_25 rfl ?_
      first | (with_reducible refine chkb ?_; refine tt_ifeqB (t := 68) (q := 29) hc dX9_isWord_26 rfl rfl (fun c_26 => ?_) (fun c_26 => ?_)) | (with_reducible refine chk1 ?_; refine tt_ifeqN (t := 68) (q := 29) hc (by omega) dX9_isWord_26 rfl rfl (fun c_26 => ?_) (fun c_26 => ?_)) | refine tt_ifeq (t := 68) (q := 29) hc dX9_isWord_26 rfl rfl (fun c_26 => ?_) (fun c_26 => ?_)
      · omega
      · refine tt_il4 (q := 31) hc dX9_isWord_29 rfl ?_
        refine tt_il2 (q := 32) hc dX9_isWord_31 rfl ?_
        first | (with_reducible refine chk2 ?_; refine tt_icgeN (t := 68) (q := 35) hc (by omega) (by omega) dX9_isWord_32 rfl rfl (fun c_32 => ?_) (fun c_32 => ?_)) | refine tt_icge (t := 68) (q := 35) hc dX9_isWord_32 rfl rfl (fun c_32 => ?_) (fun c_32 => ?_)
        · refine tt_il3 (q := 69) hc dX9_isWord_68 rfl ?_
          refine tt_retz hX rfl (by first | decide | exact bI_01 _) dX9_isWord_69 ?_
          exact h
        · omega
    | succ n ih =>
      intro i hi hlt h
      have hx := hX6.at (i := p + i) (by omega)
      rw [eqN] at h
      refine tt_il3 (q := 26) hc dX9_isWord_25 rfl ?_
      first | (with_reducible refine chkb ?_; refine tt_ifeqB (t := 68) (q := 29) hc dX9_isWord_26 rfl rfl (fun c_26 => ?_) (fun c_26 => ?_)) | (with_reducible refine chk1 ?_; refine tt_ifeqN (t := 68) (q := 29) hc (by omega) dX9_isWord_26 rfl rfl (fun c_26 => ?_) (fun c_26 => ?_)) | refine tt_ifeq (t := 68) (q := 29) hc dX9_isWord_26 rfl rfl (fun c_26 => ?_) (fun c_26 => ?_)
      · omega
      · refine tt_il4 (q := 31) hc dX9_isWord_29 rfl ?_
        refine tt_il2 (q := 32) hc dX9_isWord_31 rfl ?_
        first | (with_reducible refine chk2 ?_; refine tt_icgeN (t := 68) (q := 35) hc (by omega) (by omega) dX9_isWord_32 rfl rfl (fun c_32 => ?_) (fun c_32 => ?_)) | refine tt_icge (t := 68) (q := 35) hc dX9_isWord_32 rfl rfl (fun c_32 => ?_) (fun c_32 => ?_)
        · omega
        · refine tt_al0 (q := 36) hc dX9_isWord_35 rfl ?_
          refine tt_getR (q := 39) hc fl_X9_63 (by first | assumption | exact ⟨by decide, _, rfl, rfl⟩) dX9_isWord_36 rfl ?_
          refine tt_il4 (q := 41) hc dX9_isWord_39 rfl ?_
          refine tt_bald (q := 42) hc (by first | assumption | exact ⟨by decide, rfl, by decide⟩) (by omega) dX9_isWord_41 rfl ?_
          rw [hx.1]
          refine tt_al1 (q := 43) hc dX9_isWord_42 rfl ?_
          refine tt_il4 (q := 45) hc dX9_isWord_43 rfl ?_
          refine tt_al0 (q := 46) hc dX9_isWord_45 rfl ?_
          refine tt_getI (q := 49) hc fl_X9_269 (by first | assumption | exact ⟨by decide, _, rfl, _, rfl⟩) dX9_isWord_46 rfl ?_
          rw [hat]
          refine tt_isubN (q := 50) hc (by omega) dX9_isWord_49 rfl ?_
          rw [show p + i - p = i by omega]
          refine tt_cT1 (q := 53) (d' := 3) hc (by decide) kmJ0_charAt_5068e rfl ml_X9_277 hw (Nat.le_of_ble_eq_true rfl) dX9_isWord_50 rfl ?_
          refine c_J0_charAt_5068e hw (by omega) ?_
          dsimp only [Option.toList, List.nil_append, List.cons_append]
          refine tt_icne (q := 56) (t := 60) hc dX9_isWord_53 rfl rfl (fun c_53 => ?_) (fun c_53 => ?_)
          · rw [decide_eq_false c_53, Bool.false_and] at h
            refine tt_iconst (q := 61) (v := nI 0) hc rfl dX9_isWord_60 rfl ?_
            refine tt_is3 (q := 62) hc dX9_isWord_61 rfl (by decide) ?_
            refine tt_inc4 (q := 65) hc dX9_isWord_62 rfl (by decide) rfl ?_
            refine tt_goto (t := 25) hc dX9_isWord_65 rfl ?_
            refine tt_il3 (q := 26) hc dX9_isWord_25 rfl ?_
            refine tt_ifeqN (q := 29) (t := 68) hc (by decide) dX9_isWord_26 rfl rfl (fun _ => ?_) (fun z => absurd z (by decide))
            refine tt_il3 (q := 69) hc dX9_isWord_68 rfl ?_
            exact tt_retz hX rfl (by decide) dX9_isWord_69 h
          · rw [decide_eq_true c_53, Bool.true_and] at h
            refine tt_iconst (q := 57) (v := nI 1) hc rfl dX9_isWord_56 rfl ?_
            refine tt_goto (t := 61) hc dX9_isWord_57 rfl ?_
            refine tt_is3 (q := 62) hc dX9_isWord_61 rfl (by decide) ?_
            refine tt_inc4 (q := 65) hc dX9_isWord_62 rfl (by decide) (incN _) ?_
            refine tt_goto (t := 25) hc dX9_isWord_65 rfl ?_
            exact ih (i + 1) (by omega) hlt h
  refine tt_il2 (q := 1) hc dX9_isWord_0 rfl ?_
  refine tt_al0 (q := 2) hc dX9_isWord_1 rfl ?_
  refine tt_getI (q := 5) hc fl_X9_269 (by first | assumption | exact ⟨by decide, _, rfl, _, rfl⟩) dX9_isWord_2 rfl ?_
  rw [hat]
  first | (with_reducible refine chk2 ?_; refine tt_isubN (q := 6) hc (by omega) dX9_isWord_5 rfl ?_) | refine tt_isub (q := 6) hc dX9_isWord_5 rfl ?_
  refine tt_al1 (q := 7) hc dX9_isWord_6 rfl ?_
  refine tt_cT0 (q := 10) (d' := 1) hc (by decide) kmJ0_length_8abf5 rfl ml_X9_272 hw (Nat.le_of_ble_eq_true rfl) dX9_isWord_7 rfl ?_
  refine c_J0_length_8abf5 hw ?_
  dsimp only [Option.toList, List.nil_append, List.cons_append]
  first | (with_reducible refine chk2 ?_; refine tt_icneN (t := 17) (q := 13) hc (by omega) (by omega) dX9_isWord_10 rfl rfl (fun c_10 => ?_) (fun c_10 => ?_)) | refine tt_icne (t := 17) (q := 13) hc dX9_isWord_10 rfl rfl (fun c_10 => ?_) (fun c_10 => ?_)
  · refine tt_iconst (v := nI 0) (q := 18) hc rfl dX9_isWord_17 rfl ?_
    refine tt_is3 (q := 19) hc dX9_isWord_18 rfl (by decide) ?_
    refine tt_al0 (q := 20) hc dX9_isWord_19 rfl ?_
    refine tt_getI (q := 23) hc fl_X9_269 (by first | assumption | exact ⟨by decide, _, rfl, _, rfl⟩) dX9_isWord_20 rfl ?_
    rw [hat]
    refine tt_is4 (q := 25) hc dX9_isWord_23 rfl (by decide) ?_
    first
    | (have z : t - p = litL.getD w 0 := c_10
       rw [decide_eq_true z.symm, Bool.true_and] at hQ
       exact L _ 0 (by omega) z.symm hQ)
    | (have z : ¬ t - p = litL.getD w 0 := c_10
       rw [decide_eq_false (fun y => z y.symm), Bool.false_and] at hQ
       refine tt_il3 (q := 26) hc dX9_isWord_25 rfl ?_
       refine tt_ifeqN (q := 29) (t := 68) hc (by decide) dX9_isWord_26 rfl rfl (fun _ => ?_) (fun z => absurd z (by decide))
       refine tt_il3 (q := 69) hc dX9_isWord_68 rfl ?_
       exact tt_retz hX rfl (by decide) dX9_isWord_69 hQ)
  · refine tt_iconst (v := nI 1) (q := 14) hc rfl dX9_isWord_13 rfl ?_
    refine tt_goto (t := 18) hc dX9_isWord_14 rfl ?_
    refine tt_is3 (q := 19) hc dX9_isWord_18 rfl (by decide) ?_
    refine tt_al0 (q := 20) hc dX9_isWord_19 rfl ?_
    refine tt_getI (q := 23) hc fl_X9_269 (by first | assumption | exact ⟨by decide, _, rfl, _, rfl⟩) dX9_isWord_20 rfl ?_
    rw [hat]
    refine tt_is4 (q := 25) hc dX9_isWord_23 rfl (by decide) ?_
    first
    | (have z : t - p = litL.getD w 0 := c_10
       rw [decide_eq_true z.symm, Bool.true_and] at hQ
       exact L _ 0 (by omega) z.symm hQ)
    | (have z : ¬ t - p = litL.getD w 0 := c_10
       rw [decide_eq_false (fun y => z y.symm), Bool.false_and] at hQ
       refine tt_il3 (q := 26) hc dX9_isWord_25 rfl ?_
       refine tt_ifeqN (q := 29) (t := 68) hc (by decide) dX9_isWord_26 rfl rfl (fun _ => ?_) (fun z => absurd z (by decide))
       refine tt_il3 (q := 69) hc dX9_isWord_68 rfl ?_
       exact tt_retz hX rfl (by decide) dX9_isWord_69 hQ)
theorem few_most : ∀ w, w < 12 → ∀ n, n < 121 → (if w < 9 then decide (n = 0) else if w = 9 then decide (1 ≤ n ∧ n ≤ 2) else if w = 10 then decide (n = 1) else decide (1 ≤ n ∧ n ≤ 8)) = decide (fewN (sw w) ≤ n ∧ n ≤ mostN (sw w)) := by decide +kernel
set_option maxHeartbeats 1000000 in
theorem c_X9_areDigits {l : Launch} {w n : Nat} {μ : Mem} {Q : Option Value → Mem → Prop} (hw : w < 12) (hn : n < 121) (hQ : Q (some (.int (bI (decide (fewN (sw w) ≤ n ∧ n ≤ mostN (sw w)))))) μ) : CC l 1 mX9_areDigits [.int (nI w), .int (nI n)] μ Q := by
  refine CC.of (M := mX9_areDigits) (by decide +kernel) rfl (fun v h => by simp at h; rcases h with rfl | rfl <;> rfl) (Nat.le_of_ble_eq_true rfl) (fun X hX => ?_)
  have hc := hX.cx
  rw [← few_most w hw n hn] at hQ
  refine tt_il0 (q := 1) hc dX9_areDigits_0 rfl ?_
  refine tt_bipush (v := nI 9) (q := 3) hc (by decide) dX9_areDigits_1 rfl ?_
  first | (with_reducible refine chk2 ?_; refine tt_icgeN (t := 18) (q := 6) hc (by omega) (by omega) dX9_areDigits_3 rfl rfl (fun c_3 => ?_) (fun c_3 => ?_)) | refine tt_icge (t := 18) (q := 6) hc dX9_areDigits_3 rfl rfl (fun c_3 => ?_) (fun c_3 => ?_)
  · refine tt_il0 (q := 19) hc dX9_areDigits_18 rfl ?_
    refine tt_bipush (v := nI 9) (q := 21) hc (by decide) dX9_areDigits_19 rfl ?_
    first | (with_reducible refine chk2 ?_; refine tt_icneN (t := 33) (q := 24) hc (by omega) (by omega) dX9_areDigits_21 rfl rfl (fun c_21 => ?_) (fun c_21 => ?_)) | refine tt_icne (t := 33) (q := 24) hc dX9_areDigits_21 rfl rfl (fun c_21 => ?_) (fun c_21 => ?_)
    · refine tt_il0 (q := 34) hc dX9_areDigits_33 rfl ?_
      refine tt_bipush (v := nI 10) (q := 36) hc (by decide) dX9_areDigits_34 rfl ?_
      first | (with_reducible refine chk2 ?_; refine tt_icneN (t := 52) (q := 39) hc (by omega) (by omega) dX9_areDigits_36 rfl rfl (fun c_36 => ?_) (fun c_36 => ?_)) | refine tt_icne (t := 52) (q := 39) hc dX9_areDigits_36 rfl rfl (fun c_36 => ?_) (fun c_36 => ?_)
      · refine tt_il1 (q := 53) hc dX9_areDigits_52 rfl ?_
        refine tt_iconst (v := nI 1) (q := 54) hc rfl dX9_areDigits_53 rfl ?_
        refine tt_bipush (v := nI 8) (q := 56) hc (by decide) dX9_areDigits_54 rfl ?_
        refine tt_cS3 (q := 59) (d' := 0) hc (by first | decide | omega) kmX9_in ml_X9_91 (Nat.le_of_ble_eq_true rfl) dX9_areDigits_56 rfl ?_
        refine c_X9_in ?_
        rw [inB_n (by omega) (by decide) (by decide)]
        dsimp only [Option.toList, List.nil_append, List.cons_append]
        refine tt_retz hX rfl (by first | decide | exact bI_01 _) dX9_areDigits_59 ?_
        first
        | (have z : w < 9 := c_3
           rw [if_pos z] at hQ
           first
             | exact qb1 hQ (decide_eq_true c_7)
             | exact qb0 hQ (decide_eq_false (Nat.ne_of_gt c_7)))
        | (have z : ¬ w < 9 := Nat.not_lt.mpr c_3
           rw [if_neg z] at hQ
           first
             | (rw [if_pos c_21] at hQ; exact hQ)
             | (rw [if_neg c_21] at hQ
                first
                  | (rw [if_pos c_36] at hQ
                     first
                       | exact qb1 hQ (decide_eq_true c_41)
                       | exact qb0 hQ (decide_eq_false c_41))
                  | (rw [if_neg c_36] at hQ; exact hQ)))
      · refine tt_il1 (q := 40) hc dX9_areDigits_39 rfl ?_
        refine tt_iconst (v := nI 1) (q := 41) hc rfl dX9_areDigits_40 rfl ?_
        first | (with_reducible refine chk2 ?_; refine tt_icneN (t := 48) (q := 44) hc (by omega) (by omega) dX9_areDigits_41 rfl rfl (fun c_41 => ?_) (fun c_41 => ?_)) | refine tt_icne (t := 48) (q := 44) hc dX9_areDigits_41 rfl rfl (fun c_41 => ?_) (fun c_41 => ?_)
        · refine tt_iconst (v := nI 0) (q := 49) hc rfl dX9_areDigits_48 rfl ?_
          refine tt_goto (t := 59) hc dX9_areDigits_49 rfl ?_
          refine tt_retz hX rfl (by first | decide | exact bI_01 _) dX9_areDigits_59 ?_
          first
          | (have z : w < 9 := c_3
             rw [if_pos z] at hQ
             first
               | exact qb1 hQ (decide_eq_true c_7)
               | exact qb0 hQ (decide_eq_false (Nat.ne_of_gt c_7)))
          | (have z : ¬ w < 9 := Nat.not_lt.mpr c_3
             rw [if_neg z] at hQ
             first
               | (rw [if_pos c_21] at hQ; exact hQ)
               | (rw [if_neg c_21] at hQ
                  first
                    | (rw [if_pos c_36] at hQ
                       first
                         | exact qb1 hQ (decide_eq_true c_41)
                         | exact qb0 hQ (decide_eq_false c_41))
                    | (rw [if_neg c_36] at hQ; exact hQ)))
        · refine tt_iconst (v := nI 1) (q := 45) hc rfl dX9_areDigits_44 rfl ?_
          refine tt_goto (t := 59) hc dX9_areDigits_45 rfl ?_
          refine tt_retz hX rfl (by first | decide | exact bI_01 _) dX9_areDigits_59 ?_
          first
          | (have z : w < 9 := c_3
             rw [if_pos z] at hQ
             first
               | exact qb1 hQ (decide_eq_true c_7)
               | exact qb0 hQ (decide_eq_false (Nat.ne_of_gt c_7)))
          | (have z : ¬ w < 9 := Nat.not_lt.mpr c_3
             rw [if_neg z] at hQ
             first
               | (rw [if_pos c_21] at hQ; exact hQ)
               | (rw [if_neg c_21] at hQ
                  first
                    | (rw [if_pos c_36] at hQ
                       first
                         | exact qb1 hQ (decide_eq_true c_41)
                         | exact qb0 hQ (decide_eq_false c_41))
                    | (rw [if_neg c_36] at hQ; exact hQ)))
    · refine tt_il1 (q := 25) hc dX9_areDigits_24 rfl ?_
      refine tt_iconst (v := nI 1) (q := 26) hc rfl dX9_areDigits_25 rfl ?_
      refine tt_iconst (v := nI 2) (q := 27) hc rfl dX9_areDigits_26 rfl ?_
      refine tt_cS3 (q := 30) (d' := 0) hc (by first | decide | omega) kmX9_in ml_X9_91 (Nat.le_of_ble_eq_true rfl) dX9_areDigits_27 rfl ?_
      refine c_X9_in ?_
      rw [inB_n (by omega) (by decide) (by decide)]
      dsimp only [Option.toList, List.nil_append, List.cons_append]
      refine tt_goto (t := 59) hc dX9_areDigits_30 rfl ?_
      refine tt_retz hX rfl (by first | decide | exact bI_01 _) dX9_areDigits_59 ?_
      first
      | (have z : w < 9 := c_3
         rw [if_pos z] at hQ
         first
           | exact qb1 hQ (decide_eq_true c_7)
           | exact qb0 hQ (decide_eq_false (Nat.ne_of_gt c_7)))
      | (have z : ¬ w < 9 := Nat.not_lt.mpr c_3
         rw [if_neg z] at hQ
         first
           | (rw [if_pos c_21] at hQ; exact hQ)
           | (rw [if_neg c_21] at hQ
              first
                | (rw [if_pos c_36] at hQ
                   first
                     | exact qb1 hQ (decide_eq_true c_41)
                     | exact qb0 hQ (decide_eq_false c_41))
                | (rw [if_neg c_36] at hQ; exact hQ)))
  · refine tt_il1 (q := 7) hc dX9_areDigits_6 rfl ?_
    first | (with_reducible refine chkb ?_; refine tt_ifneB (t := 14) (q := 10) hc dX9_areDigits_7 rfl rfl (fun c_7 => ?_) (fun c_7 => ?_)) | (with_reducible refine chk1 ?_; refine tt_ifneN (t := 14) (q := 10) hc (by omega) dX9_areDigits_7 rfl rfl (fun c_7 => ?_) (fun c_7 => ?_)) | refine tt_ifne (t := 14) (q := 10) hc dX9_areDigits_7 rfl rfl (fun c_7 => ?_) (fun c_7 => ?_)
    · refine tt_iconst (v := nI 0) (q := 15) hc rfl dX9_areDigits_14 rfl ?_
      refine tt_goto (t := 59) hc dX9_areDigits_15 rfl ?_
      refine tt_retz hX rfl (by first | decide | exact bI_01 _) dX9_areDigits_59 ?_
      first
      | (have z : w < 9 := c_3
         rw [if_pos z] at hQ
         first
           | exact qb1 hQ (decide_eq_true c_7)
           | exact qb0 hQ (decide_eq_false (Nat.ne_of_gt c_7)))
      | (have z : ¬ w < 9 := Nat.not_lt.mpr c_3
         rw [if_neg z] at hQ
         first
           | (rw [if_pos c_21] at hQ; exact hQ)
           | (rw [if_neg c_21] at hQ
              first
                | (rw [if_pos c_36] at hQ
                   first
                     | exact qb1 hQ (decide_eq_true c_41)
                     | exact qb0 hQ (decide_eq_false c_41))
                | (rw [if_neg c_36] at hQ; exact hQ)))
    · refine tt_iconst (v := nI 1) (q := 11) hc rfl dX9_areDigits_10 rfl ?_
      refine tt_goto (t := 59) hc dX9_areDigits_11 rfl ?_
      refine tt_retz hX rfl (by first | decide | exact bI_01 _) dX9_areDigits_59 ?_
      first
      | (have z : w < 9 := c_3
         rw [if_pos z] at hQ
         first
           | exact qb1 hQ (decide_eq_true c_7)
           | exact qb0 hQ (decide_eq_false (Nat.ne_of_gt c_7)))
      | (have z : ¬ w < 9 := Nat.not_lt.mpr c_3
         rw [if_neg z] at hQ
         first
           | (rw [if_pos c_21] at hQ; exact hQ)
           | (rw [if_neg c_21] at hQ
              first
                | (rw [if_pos c_36] at hQ
                   first
                     | exact qb1 hQ (decide_eq_true c_41)
                     | exact qb0 hQ (decide_eq_false c_41))
                | (rw [if_neg c_36] at hQ; exact hQ)))
set_option maxHeartbeats 1000000 in
theorem c_X9_numberOf {l : Launch} {a b : Nat} {tx : List Nat} {μ : Mem} {Q : Option Value → Mem → Prop} (hX6 : MX μ tx) (hab : a ≤ b) (hb : b ≤ tx.length) (hd : ∀ i, a ≤ i → i < b → 48 ≤ tx.getD i 0 ∧ tx.getD i 0 ≤ 57) (hQ : Q (some (.int (nI (valN tx (b - a) a 0)))) μ) : CC l 0 mX9_numberOf [.ref 24, .int (nI a), .int (nI b)] μ Q := by
  refine CC.of (M := mX9_numberOf) (by decide +kernel) rfl (fun v h => by simp at h; rcases h with rfl | rfl | rfl <;> rfl) (Nat.le_of_ble_eq_true rfl) (fun X hX => ?_)
  have hc := hX.cx
  have h1 := hX6.1
  have a38 := HA38
  have L : ∀ (n i v : Nat), i + n = b → a ≤ i → Q (some (.int (nI (valN tx n i v)))) μ → TT X 5 [.ref 24, .int (nI a), .int (nI b), .int (nI v), .int (nI i)] [] μ := by
    intro n
    induction n with
    | zero =>
      intro i v hi hai h
      refine tt_il4 (q := 7) hc dX9_numberOf_5 rfl ?_
      refine tt_il2 (q := 8) hc dX9_numberOf_7 rfl ?_
      first | (with_reducible refine chk2 ?_; refine tt_icgeN (t := 33) (q := 11) hc (by omega) (by omega) dX9_numberOf_8 rfl rfl (fun c_8 => ?_) (fun c_8 => ?_)) | refine tt_icge (t := 33) (q := 11) hc dX9_numberOf_8 rfl rfl (fun c_8 => ?_) (fun c_8 => ?_)
      · refine tt_il3 (q := 34) hc dX9_numberOf_33 rfl ?_
        refine tt_reti hX rfl dX9_numberOf_34 ?_
        exact h
      · omega
    | succ n ih =>
      intro i v hi hai h
      have hx := hX6.at (i := i) (by omega)
      have hdi := hd i hai (by omega)
      rw [valN] at h
      refine tt_il4 (q := 7) hc dX9_numberOf_5 rfl ?_
      refine tt_il2 (q := 8) hc dX9_numberOf_7 rfl ?_
      first | (with_reducible refine chk2 ?_; refine tt_icgeN (t := 33) (q := 11) hc (by omega) (by omega) dX9_numberOf_8 rfl rfl (fun c_8 => ?_) (fun c_8 => ?_)) | refine tt_icge (t := 33) (q := 11) hc dX9_numberOf_8 rfl rfl (fun c_8 => ?_) (fun c_8 => ?_)
      · omega
      · refine tt_bipush (v := nI 10) (q := 13) hc (by decide) dX9_numberOf_11 rfl ?_
        refine tt_il3 (q := 14) hc dX9_numberOf_13 rfl ?_
        first | (with_reducible refine chk2 ?_; refine tt_imulN (q := 15) hc dX9_numberOf_14 rfl ?_) | refine tt_imul (q := 15) hc dX9_numberOf_14 rfl ?_
        refine tt_al0 (q := 16) hc dX9_numberOf_15 rfl ?_
        refine tt_getR (q := 19) hc fl_X9_63 (by first | assumption | exact ⟨by decide, _, rfl, rfl⟩) dX9_numberOf_16 rfl ?_
        refine tt_il4 (q := 21) hc dX9_numberOf_19 rfl ?_
        refine tt_bald (q := 22) hc (by first | assumption | exact ⟨by decide, rfl, by decide⟩) (by omega) dX9_numberOf_21 rfl ?_
        rw [hx.1]
        first | (with_reducible refine chk2 ?_; refine tt_iaddN (q := 23) hc dX9_numberOf_22 rfl ?_) | refine tt_iadd (q := 23) hc dX9_numberOf_22 rfl ?_
        refine tt_bipush (v := nI 48) (q := 25) hc (by decide) dX9_numberOf_23 rfl ?_
        first | (with_reducible refine chk2 ?_; refine tt_isubN (q := 26) hc (by omega) dX9_numberOf_25 rfl ?_) | refine tt_isub (q := 26) hc dX9_numberOf_25 rfl ?_
        refine tt_is3 (q := 27) hc dX9_numberOf_26 rfl (by decide) ?_
        first | refine tt_inc4 (q := 30) hc dX9_numberOf_27 rfl (by decide) (incN _) ?_ | refine tt_inc4 (q := 30) hc dX9_numberOf_27 rfl (by decide) rfl ?_
        refine tt_goto (t := 5) hc dX9_numberOf_30 rfl ?_
        exact ih (i + 1) _ (by omega) (by omega) h
  refine tt_iconst (v := nI 0) (q := 1) hc rfl dX9_numberOf_0 rfl ?_
  refine tt_is3 (q := 2) hc dX9_numberOf_1 rfl (by decide) ?_
  refine tt_il1 (q := 3) hc dX9_numberOf_2 rfl ?_
  refine tt_is4 (q := 5) hc dX9_numberOf_3 rfl (by decide) ?_
  exact L (b - a) a 0 (by omega) (Nat.le_refl _) hQ
def psM (o : Option Nat) : Nat := match o with
  | some s => s
  | none => 0
set_option maxHeartbeats 1000000 in
theorem c_X9_setOf {l : Launch} {a b : Nat} {tx : List Nat} {μ : Mem} {Q : Option Value → Mem → Prop} (hX6 : MX μ tx) (hab : a ≤ b) (hb : b ≤ tx.length) (hd : ∀ i, a ≤ i → i < b → 48 ≤ tx.getD i 0 ∧ tx.getD i 0 ≤ 57) (hQ : Q (some (.int (nI (psM (psN tx (b - a) a 0))))) μ) : CC l 0 mX9_setOf [.ref 24, .int (nI a), .int (nI b)] μ Q := by
  refine CC.of (M := mX9_setOf) (by decide +kernel) rfl (fun v h => by simp at h; rcases h with rfl | rfl | rfl <;> rfl) (Nat.le_of_ble_eq_true rfl) (fun X hX => ?_)
  have hc := hX.cx
  have h1 := hX6.1
  have a38 := HA38
  have L : ∀ (n i v : Nat), i + n = b → a ≤ i → Q (some (.int (nI (psM (psN tx n i v))))) μ → TT X 5 [.ref 24, .int (nI a), .int (nI b), .int (nI v), .int (nI i)] [] μ := by
    intro n
    induction n with
    | zero =>
      intro i v hi hai h
      refine tt_il4 (q := 7) hc dX9_setOf_5 rfl ?_
      refine tt_il2 (q := 8) hc dX9_setOf_7 rfl ?_
      first | (with_reducible refine chk2 ?_; refine tt_icgeN (t := 46) (q := 11) hc (by omega) (by omega) dX9_setOf_8 rfl rfl (fun c_8 => ?_) (fun c_8 => ?_)) | refine tt_icge (t := 46) (q := 11) hc dX9_setOf_8 rfl rfl (fun c_8 => ?_) (fun c_8 => ?_)
      · refine tt_il3 (q := 47) hc dX9_setOf_46 rfl ?_
        refine tt_reti hX rfl dX9_setOf_47 ?_
        exact h
      · omega
    | succ n ih =>
      intro i v hi hai h
      have hx := hX6.at (i := i) (by omega)
      have hdi := hd i hai (by omega)
      rw [psN] at h
      refine tt_il4 (q := 7) hc dX9_setOf_5 rfl ?_
      refine tt_il2 (q := 8) hc dX9_setOf_7 rfl ?_
      first | (with_reducible refine chk2 ?_; refine tt_icgeN (t := 46) (q := 11) hc (by omega) (by omega) dX9_setOf_8 rfl rfl (fun c_8 => ?_) (fun c_8 => ?_)) | refine tt_icge (t := 46) (q := 11) hc dX9_setOf_8 rfl rfl (fun c_8 => ?_) (fun c_8 => ?_)
      · omega
      · refine tt_al0 (q := 12) hc dX9_setOf_11 rfl ?_
        refine tt_getR (q := 15) hc fl_X9_63 (by first | assumption | exact ⟨by decide, _, rfl, rfl⟩) dX9_setOf_12 rfl ?_
        refine tt_il4 (q := 17) hc dX9_setOf_15 rfl ?_
        refine tt_bald (q := 18) hc (by first | assumption | exact ⟨by decide, rfl, by decide⟩) (by omega) dX9_setOf_17 rfl ?_
        rw [hx.1]
        refine tt_bipush (v := nI 55) (q := 20) hc (by decide) dX9_setOf_18 rfl ?_
        first | (with_reducible refine chk2 ?_; refine tt_icleN (t := 25) (q := 23) hc (by omega) (by omega) dX9_setOf_20 rfl rfl (fun c_20 => ?_) (fun c_20 => ?_)) | refine tt_icle (t := 25) (q := 23) hc dX9_setOf_20 rfl rfl (fun c_20 => ?_) (fun c_20 => ?_)
        · refine tt_il3 (q := 26) hc dX9_setOf_25 rfl ?_
          refine tt_iconst (v := nI 1) (q := 27) hc rfl dX9_setOf_26 rfl ?_
          refine tt_al0 (q := 28) hc dX9_setOf_27 rfl ?_
          refine tt_getR (q := 31) hc fl_X9_63 (by first | assumption | exact ⟨by decide, _, rfl, rfl⟩) dX9_setOf_28 rfl ?_
          refine tt_il4 (q := 33) hc dX9_setOf_31 rfl ?_
          refine tt_bald (q := 34) hc (by first | assumption | exact ⟨by decide, rfl, by decide⟩) (by omega) dX9_setOf_33 rfl ?_
          rw [hx.1]
          refine tt_bipush (v := nI 48) (q := 36) hc (by decide) dX9_setOf_34 rfl ?_
          first | (with_reducible refine chk2 ?_; refine tt_isubN (q := 37) hc (by omega) dX9_setOf_36 rfl ?_) | refine tt_isub (q := 37) hc dX9_setOf_36 rfl ?_
          first | (with_reducible refine chks ?_; refine tt_ishl1 (q := 38) hc (by omega) dX9_setOf_37 rfl ?_) | (with_reducible refine chk2 ?_; refine tt_ishlN (q := 38) hc (by omega) (by omega) dX9_setOf_37 rfl ?_) | refine tt_ishl (q := 38) hc dX9_setOf_37 rfl ?_
          first | (with_reducible refine chk2 ?_; refine tt_iorN (q := 39) hc dX9_setOf_38 rfl ?_) | refine tt_ior (q := 39) hc dX9_setOf_38 rfl ?_
          refine tt_is3 (q := 40) hc dX9_setOf_39 rfl (by decide) ?_
          first | refine tt_inc4 (q := 43) hc dX9_setOf_40 rfl (by decide) (incN _) ?_ | refine tt_inc4 (q := 43) hc dX9_setOf_40 rfl (by decide) rfl ?_
          refine tt_goto (t := 5) hc dX9_setOf_43 rfl ?_
          rw [if_neg (by omega)] at h
          exact ih (i + 1) _ (by omega) (by omega) h
        · refine tt_iconst (v := nI 0) (q := 24) hc rfl dX9_setOf_23 rfl ?_
          refine tt_reti hX rfl dX9_setOf_24 ?_
          rw [if_pos c_20] at h
          exact h
  refine tt_iconst (v := nI 0) (q := 1) hc rfl dX9_setOf_0 rfl ?_
  refine tt_is3 (q := 2) hc dX9_setOf_1 rfl (by decide) ?_
  refine tt_il1 (q := 3) hc dX9_setOf_2 rfl ?_
  refine tt_is4 (q := 5) hc dX9_setOf_3 rfl (by decide) ?_
  exact L (b - a) a 0 (by omega) (Nat.le_refl _) hQ
