/-! STRINGS: rows of the judgement for literals and the JDK's own methods over them -/
theorem fj_val : Cond.fieldLink RJ0 9 "java/lang/String" "value" "[B" ∈ wsL_law := lk_r34 _ (List.mem_of_getElem? (i := 1) rfl)
theorem fj_cod : Cond.fieldLink RJ0 15 "java/lang/String" "coder" "B" ∈ wsL_law := lk_r34 _ (List.mem_of_getElem? (i := 7) rfl)
theorem fj_com : Cond.fieldLink RJ0 38 "java/lang/String" "COMPACT_STRINGS" "Z" ∈ wsL_law := lk_r34 _ (List.mem_of_getElem? (i := 6) rfl)
theorem fj_sio : Cond.fieldLink RJ0 1053 "jdk/internal/util/Preconditions" "SIOOBE_FORMATTER" "Ljava/util/function/BiFunction;" ∈ wsL_law := lk_r34 _ (List.mem_of_getElem? (i := 23) rfl)
section SRW
variable {X : XT} {l : Launch} {d : Nat} {M : MD}
theorem tt_sval (hX : Cx X l d M) {pc q w : Nat} {L S : List Value} {μ : Mem} (hw : w < 12) (ho9 : M.2.2.2.2 = RJ0) (hd : decode M.2.1 pc = .ok (.getfield 9, 3)) (hq : pc + 3 = q) (kk : TT X q L (.ref (113 + 2 * w) :: S) μ) : TT X pc L (.ref (112 + 2 * w) :: S) μ := by
  obtain ⟨p, l', e, R, s, m, args, below, meth, c, Z, ce, sl, g, M', n0⟩ := X
  obtain ⟨rfl, rfl, rfl, hx, hb, hml, ho, hts, hK, hSS, hg, hfr, hlo, hce, hsl⟩ := hX
  subst hq
  intro H locs ls hP hS hl
  rw [ho9] at ho
  exact vk_getf hx hb (hSS.1.1 w hw).2.2.1 hS ho (hts _ fj_val) (fun _ z => z) hd (kk H locs ls hP hS hl)
theorem tt_scod (hX : Cx X l d M) {pc q w : Nat} {L S : List Value} {μ : Mem} (hw : w < 12) (ho9 : M.2.2.2.2 = RJ0) (hd : decode M.2.1 pc = .ok (.getfield 15, 3)) (hq : pc + 3 = q) (kk : TT X q L (.int 0 :: S) μ) : TT X pc L (.ref (112 + 2 * w) :: S) μ := by
  obtain ⟨p, l', e, R, s, m, args, below, meth, c, Z, ce, sl, g, M', n0⟩ := X
  obtain ⟨rfl, rfl, rfl, hx, hb, hml, ho, hts, hK, hSS, hg, hfr, hlo, hce, hsl⟩ := hX
  subst hq
  intro H locs ls hP hS hl
  rw [ho9] at ho
  exact vk_getf hx hb (hSS.1.1 w hw).2.1 hS ho (hts _ fj_cod) (fun _ z => z) hd (kk H locs ls hP hS hl)
theorem tt_slen (hX : Cx X l d M) {pc q w : Nat} {L S : List Value} {μ : Mem} (hw : w < 12) (hd : decode M.2.1 pc = .ok (.arraylength, 1)) (hq : pc + 1 = q) (kk : TT X q L (.int (nI (litL.getD w 0)) :: S) μ) : TT X pc L (.ref (113 + 2 * w) :: S) μ := by
  obtain ⟨p, l', e, R, s, m, args, below, meth, c, Z, ce, sl, g, M', n0⟩ := X
  obtain ⟨rfl, rfl, rfl, hx, hb, hml, ho, hts, hK, hSS, hg, hfr, hlo, hce, hsl⟩ := hX
  subst hq
  intro H locs ls hP hS hl
  exact va_tlen hx hb (hSS.1.1 w hw).2.2.2 hS rfl hd (kk H locs ls hP hS hl)
theorem tt_sbyt (hX : Cx X l d M) {pc q w i : Nat} {L S : List Value} {μ : Mem} (hw : w < 12) (hi : i < litL.getD w 0) (hi2 : i < 2 ^ 31) (hd : decode M.2.1 pc = .ok (.baload, 1)) (hq : pc + 1 = q) (kk : TT X q L (.int ((litB.getD w []).getD i 0) :: S) μ) : TT X pc L (.int (nI i) :: .ref (113 + 2 * w) :: S) μ := by
  obtain ⟨p, l', e, R, s, m, args, below, meth, c, Z, ce, sl, g, M', n0⟩ := X
  obtain ⟨rfl, rfl, rfl, hx, hb, hml, ho, hts, hK, hSS, hg, hfr, hlo, hce, hsl⟩ := hX
  subst hq
  intro H locs ls hP hS hl
  have hcl := nI_clamp hi2
  refine va_tb hx hb (hSS.1.1 w hw).2.2.2 hS (by rw [vp_in, hcl]; exact fun z => z.elim (fun z => nI_pos hi2 z) (fun z => absurd z (Nat.not_le.mpr hi))) (v := .int ((litB.getD w []).getD i 0)) (by rw [hcl]) hd (kk H locs ls hP hS hl)
theorem tt_comp (hX : Cx X l d M) {pc q : Nat} {L S : List Value} {μ : Mem} (ho9 : M.2.2.2.2 = RJ0) (hd : decode M.2.1 pc = .ok (.getstatic 38, 3)) (hq : pc + 3 = q) (kk : TT X q L (.int 1 :: S) μ) : TT X pc L S μ := by
  obtain ⟨p, l', e, R, s, m, args, below, meth, c, Z, ce, sl, g, M', n0⟩ := X
  obtain ⟨rfl, rfl, rfl, hx, hb, hml, ho, hts, hK, hSS, hg, hfr, hlo, hce, hsl⟩ := hX
  subst hq
  intro H locs ls hP hS hl
  rw [ho9] at ho
  exact va_gets hx hb hSS.2.2.2.1 hS ho (hts _ fj_com) (fun _ z => z) hd (kk H locs ls hP hS hl)
theorem tt_sioo (hX : Cx X l d M) {pc q : Nat} {L S : List Value} {μ : Mem} (ho9 : M.2.2.2.2 = RJ0) (hd : decode M.2.1 pc = .ok (.getstatic 1053, 3)) (hq : pc + 3 = q) (kk : ∀ v, v = .null ∨ v = .ref 138 → TT X q L (v :: S) μ) : TT X pc L S μ := by
  obtain ⟨p, l', e, R, s, m, args, below, meth, c, Z, ce, sl, g, M', n0⟩ := X
  obtain ⟨rfl, rfl, rfl, hx, hb, hml, ho, hts, hK, hSS, hg, hfr, hlo, hce, hsl⟩ := hX
  subst hq
  intro H locs ls hP hS hl
  rw [ho9] at ho
  rcases hSS.2.2.2.2 with z | z
  · exact va_gets hx hb z hS ho (hts _ fj_sio) (fun _ z => z) hd (kk .null (Or.inl rfl) H locs ls hP hS hl)
  · exact va_gets hx hb z hS ho (hts _ fj_sio) (fun _ z => z) hd (kk (.ref 138) (Or.inr rfl) H locs ls hP hS hl)
theorem tt_few (hX : Cx X l d M) {pc q : Nat} {L S : List Value} {μ : Mem} (ho9 : M.2.2.2.2 = RX6) (hd : decode M.2.1 pc = .ok (.getstatic 40, 3)) (hq : pc + 3 = q) (kk : TT X q L (.ref 136 :: S) μ) : TT X pc L S μ := by
  obtain ⟨p, l', e, R, s, m, args, below, meth, c, Z, ce, sl, g, M', n0⟩ := X
  obtain ⟨rfl, rfl, rfl, hx, hb, hml, ho, hts, hK, hSS, hg, hfr, hlo, hce, hsl⟩ := hX
  subst hq
  intro H locs ls hP hS hl
  rw [ho9] at ho
  exact va_getsN hx hb hSS.2.1.1 hS ho (nest_use hK.2.1 (List.mem_of_getElem? (i := 11) rfl) rfl) (fun _ z => z) hd (kk H locs ls hP hS hl)
theorem tt_most (hX : Cx X l d M) {pc q : Nat} {L S : List Value} {μ : Mem} (ho9 : M.2.2.2.2 = RX6) (hd : decode M.2.1 pc = .ok (.getstatic 43, 3)) (hq : pc + 3 = q) (kk : TT X q L (.ref 137 :: S) μ) : TT X pc L S μ := by
  obtain ⟨p, l', e, R, s, m, args, below, meth, c, Z, ce, sl, g, M', n0⟩ := X
  obtain ⟨rfl, rfl, rfl, hx, hb, hml, ho, hts, hK, hSS, hg, hfr, hlo, hce, hsl⟩ := hX
  subst hq
  intro H locs ls hP hS hl
  rw [ho9] at ho
  exact va_getsN hx hb hSS.2.2.1.1 hS ho (nest_use hK.2.1 (List.mem_of_getElem? (i := 12) rfl) rfl) (fun _ z => z) hd (kk H locs ls hP hS hl)
theorem tt_fewi (hX : Cx X l d M) {pc q i : Nat} {L S : List Value} {μ : Mem} (hi : i < 12) (hd : decode M.2.1 pc = .ok (.iaload, 1)) (hq : pc + 1 = q) (kk : TT X q L (.int (fewD i) :: S) μ) : TT X pc L (.int (nI i) :: .ref 136 :: S) μ := by
  obtain ⟨p, l', e, R, s, m, args, below, meth, c, Z, ce, sl, g, M', n0⟩ := X
  obtain ⟨rfl, rfl, rfl, hx, hb, hml, ho, hts, hK, hSS, hg, hfr, hlo, hce, hsl⟩ := hX
  subst hq
  intro H locs ls hP hS hl
  have hcl := nI_clamp (show i < 2 ^ 31 by omega)
  exact va_ti hx hb hSS.2.1.2 hS (inb_nI hi (by decide)) (v := .int (fewD i)) (by rw [hcl]) hd (kk H locs ls hP hS hl)
theorem tt_mosti (hX : Cx X l d M) {pc q i : Nat} {L S : List Value} {μ : Mem} (hi : i < 12) (hd : decode M.2.1 pc = .ok (.iaload, 1)) (hq : pc + 1 = q) (kk : TT X q L (.int (mostD i) :: S) μ) : TT X pc L (.int (nI i) :: .ref 137 :: S) μ := by
  obtain ⟨p, l', e, R, s, m, args, below, meth, c, Z, ce, sl, g, M', n0⟩ := X
  obtain ⟨rfl, rfl, rfl, hx, hb, hml, ho, hts, hK, hSS, hg, hfr, hlo, hce, hsl⟩ := hX
  subst hq
  intro H locs ls hP hS hl
  have hcl := nI_clamp (show i < 2 ^ 31 by omega)
  exact va_ti hx hb hSS.2.2.1.2 hS (inb_nI hi (by decide)) (v := .int (mostD i)) (by rw [hcl]) hd (kk H locs ls hP hS hl)
theorem tt_ldcwS (hX : Cx X l d M) {pc q : Nat} {L S : List Value} {μ : Mem} {idx w : Nat} (hw : (M.2.2.2.2, idx, w) ∈ litR) (hd : decode M.2.1 pc = .ok (.ldc_w idx, 3)) (hq : pc + 3 = q) (kk : TT X q L (.ref (112 + 2 * w) :: S) μ) : TT X pc L S μ := by
  obtain ⟨p, l', e, R, s, m, args, below, meth, c, Z, ce, sl, g, M', n0⟩ := X
  obtain ⟨rfl, rfl, rfl, hx, hb, hml, ho, hts, hK, hSS, hg, hfr, hlo, hce, hsl⟩ := hX
  subst hq
  intro H locs ls hP hS hl
  intro T hT Xs
  obtain ⟨t, a1, b1⟩ := kk H locs ls hP hS hl T hT Xs
  exact ⟨t, Xs.ldcStringW hx ho (hK.2.2 _ hw).1 (hK.2.2 _ hw).2 (g := F0 m pc ls (S.map (tv g))) rfl (by rw [hb]; exact hd) t a1, b1⟩
theorem tt_i2c (hX : Cx X l d M) {pc q : Nat} {L S : List Value} {μ : Mem} {x v : Int32} (hv : (x.toUInt32 % 65536).toInt32 = v) (hd : decode M.2.1 pc = .ok (.i2c, 1)) (hq : pc + 1 = q) (kk : TT X q L (.int v :: S) μ) : TT X pc L (.int x :: S) μ := by
  obtain ⟨p, l', e, R, s, m, args, below, meth, c, Z, ce, sl, g, M', n0⟩ := X
  obtain ⟨rfl, rfl, rfl, hx, hb, hml, ho, hts, hK, hSS, hg, hfr, hlo, hce, hsl⟩ := hX
  subst hq
  intro H locs ls hP hS hl
  exact lv_i2c hx hb hd hv (kk H locs ls hP hS hl)
/-- a call on a literal -/
theorem tt_callT (hX : Cx X l d M) {d' : Nat} (hdd : d' + 1 ≤ d) {M' : MD} {n w : Nat} (hM : MKV M' n) (hM9 : M'.2.2.2.2 = "java/lang/String") {idx : Nat} (hlk : Cond.methodLink M.2.2.2.2 idx M'.1 ∈ wsL_law) {pc q : Nat} {L S st as : List Value} {μ : Mem} (hw : w < 12) (hn : as.length = n) (hst : st = as.reverse ++ .ref (112 + 2 * w) :: S) (hcat : (S.map fun v => v.category).sum ≤ 8) (hd : decode M.2.1 pc = .ok (.invokevirtual idx, 3)) (hq : pc + 3 = q) (k : CC l d' M' (.ref (112 + 2 * w) :: as) μ (fun r μ' => TT X q L (r.toList ++ S) μ')) : TT X pc L st μ := by
  obtain ⟨p, l', e, R, s, m, args, below, meth, c, Z, ce, sl, g, M0, n0⟩ := X
  obtain ⟨rfl, rfl, rfl, hx, hb, hml, ho, hts, hK, hSS, hg, hfr, hlo, hce, hsl⟩ := hX
  subst hq
  subst hst
  intro H locs ls hP hS hl
  obtain ⟨m1, m2, m3, m4, m5, m6, m7⟩ := hM
  have hgi : GoodIn wsL_law (mws M') := fun w hw => (List.mem_cons.mp hw).elim (fun e => by rw [e]; exact goodL _ m1) (goodL w)
  refine tt_run (L := L) (S := S) (Q := fun r μ' => TTof p l' e R s m args below meth c Z ce sl g M0.2.2.1 (pc + 3) L (r.toList ++ S) μ') (va_runV (C := M'.2.2.2.2) (As := as.map (tv g)) (rest := S.map (tv g)) (n := n) ⟨hx, hb, hml, ho, hts⟩ (k g H.size hg) ⟨callB_of (ws := mws M') (rm := rmd d') n hts hgi rfl rfl rfl (by rw [m7]; exact hts _ m2) (hts _ hlk) m5 ⟨by show d' + 1 ≤ R.frames; omega, by show 8 + (M'.2.2.1 + 11) + 40 * d' ≤ R.locals; omega⟩, hts _ m3, hts _ m4⟩ ⟨pc_blind, by rw [hM9]; exact vk_recv (i := w) (adK := fun w => g.2.2.1 (112 + 2 * w)) hSS.1 hw hS, fun U hU hW => pc_at (as := .ref (112 + 2 * w) :: as) hK hSS hP hS hU hW⟩ rfl (by rw [List.length_map]; exact hn) hl.1 (by show _ = _; rw [List.map_append, List.map_reverse]; rfl) (lv_room (by rw [tt_catM]; exact hcat)) hd ⟨hce, hsl⟩) hS hl (fun r μ' h => h)
theorem tt_cT0 (hX : Cx X l d M) {d' : Nat} (hdd : d' + 1 ≤ d) {M' : MD} {w : Nat} (hM : MKV M' 0) (hM9 : M'.2.2.2.2 = "java/lang/String") {idx : Nat} (hlk : Cond.methodLink M.2.2.2.2 idx M'.1 ∈ wsL_law) {pc q : Nat} {L S : List Value} {μ : Mem} (hw : w < 12) (hcat : (S.map fun v => v.category).sum ≤ 8) (hd : decode M.2.1 pc = .ok (.invokevirtual idx, 3)) (hq : pc + 3 = q) (k : CC l d' M' [.ref (112 + 2 * w)] μ (fun r μ' => TT X q L (r.toList ++ S) μ')) : TT X pc L (.ref (112 + 2 * w) :: S) μ := tt_callT hX hdd hM hM9 hlk (as := []) hw rfl rfl hcat hd hq k
theorem tt_cT1 (hX : Cx X l d M) {d' : Nat} (hdd : d' + 1 ≤ d) {M' : MD} {w : Nat} (hM : MKV M' 1) (hM9 : M'.2.2.2.2 = "java/lang/String") {idx : Nat} (hlk : Cond.methodLink M.2.2.2.2 idx M'.1 ∈ wsL_law) {pc q : Nat} {L S : List Value} {v : Value} {μ : Mem} (hw : w < 12) (hcat : (S.map fun v => v.category).sum ≤ 8) (hd : decode M.2.1 pc = .ok (.invokevirtual idx, 3)) (hq : pc + 3 = q) (k : CC l d' M' [.ref (112 + 2 * w), v] μ (fun r μ' => TT X q L (r.toList ++ S) μ')) : TT X pc L (v :: .ref (112 + 2 * w) :: S) μ := tt_callT hX hdd hM hM9 hlk (as := [v]) hw rfl rfl hcat hd hq k
end SRW
