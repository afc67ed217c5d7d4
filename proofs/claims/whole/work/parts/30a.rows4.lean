/-! NULL, STORED AND LOADED -/
theorem tt_al2N {X : XT} {l : Launch} {d : Nat} {M : MD} (hX : Cx X l d M) {pc q : Nat} {L S : List Value} {μ : Mem} {u0 u1 : Value} (hd : decode M.2.1 pc = .ok (.aload_n 2, 1)) (hq : pc + 1 = q) (k : TT X q (u0 :: u1 :: .null :: L) (.null :: S) μ) : TT X pc (u0 :: u1 :: .null :: L) S μ := by
  obtain ⟨p, l', e, R, s, m, args, below, meth, c, Z, ce, sl, g, M', n0⟩ := X
  obtain ⟨rfl, rfl, rfl, hx, hb, hml, ho, hts, hK, hSS, hg, hfr, hlo, hce, hsl⟩ := hX
  subst hq
  intro H locs ls hP hS hl
  exact lv_aload_nN hx hb hd rfl (tl_ld hl (i := 2) (v := .null) rfl rfl) (k H locs ls hP hS hl)
theorem tt_as2N {X : XT} {l : Launch} {d : Nat} {M : MD} (hX : Cx X l d M) {pc q : Nat} {L S : List Value} {μ : Mem} {u0 u1 w : Value} (hd : decode M.2.1 pc = .ok (.astore_n 2, 1)) (hq : pc + 1 = q) (hn : 2 < M.2.2.1) (k : TT X q (u0 :: u1 :: .null :: L) S μ) : TT X pc (u0 :: u1 :: w :: L) (.null :: S) μ := by
  obtain ⟨p, l', e, R, s, m, args, below, meth, c, Z, ce, sl, g, M', n0⟩ := X
  obtain ⟨rfl, rfl, rfl, hx, hb, hml, ho, hts, hK, hSS, hg, hfr, hlo, hce, hsl⟩ := hX
  subst hq
  intro H locs ls hP hS hl
  exact lv_astore_nN hx hb hd rfl hl hn rfl (fun ls' hl' => k H locs ls' hP hS (lv_mono hl' (tl_set (L := u0 :: u1 :: w :: L) (i := 2) (v := .null))))
theorem tt_al3N {X : XT} {l : Launch} {d : Nat} {M : MD} (hX : Cx X l d M) {pc q : Nat} {L S : List Value} {μ : Mem} {u0 u1 u2 : Value} (hd : decode M.2.1 pc = .ok (.aload_n 3, 1)) (hq : pc + 1 = q) (k : TT X q (u0 :: u1 :: u2 :: .null :: L) (.null :: S) μ) : TT X pc (u0 :: u1 :: u2 :: .null :: L) S μ := by
  obtain ⟨p, l', e, R, s, m, args, below, meth, c, Z, ce, sl, g, M', n0⟩ := X
  obtain ⟨rfl, rfl, rfl, hx, hb, hml, ho, hts, hK, hSS, hg, hfr, hlo, hce, hsl⟩ := hX
  subst hq
  intro H locs ls hP hS hl
  exact lv_aload_nN hx hb hd rfl (tl_ld hl (i := 3) (v := .null) rfl rfl) (k H locs ls hP hS hl)
theorem tt_as3N {X : XT} {l : Launch} {d : Nat} {M : MD} (hX : Cx X l d M) {pc q : Nat} {L S : List Value} {μ : Mem} {u0 u1 u2 w : Value} (hd : decode M.2.1 pc = .ok (.astore_n 3, 1)) (hq : pc + 1 = q) (hn : 3 < M.2.2.1) (k : TT X q (u0 :: u1 :: u2 :: .null :: L) S μ) : TT X pc (u0 :: u1 :: u2 :: w :: L) (.null :: S) μ := by
  obtain ⟨p, l', e, R, s, m, args, below, meth, c, Z, ce, sl, g, M', n0⟩ := X
  obtain ⟨rfl, rfl, rfl, hx, hb, hml, ho, hts, hK, hSS, hg, hfr, hlo, hce, hsl⟩ := hX
  subst hq
  intro H locs ls hP hS hl
  exact lv_astore_nN hx hb hd rfl hl hn rfl (fun ls' hl' => k H locs ls' hP hS (lv_mono hl' (tl_set (L := u0 :: u1 :: u2 :: w :: L) (i := 3) (v := .null))))
theorem tt_al4N {X : XT} {l : Launch} {d : Nat} {M : MD} (hX : Cx X l d M) {pc q : Nat} {L S : List Value} {μ : Mem} {u0 u1 u2 u3 : Value} (hd : decode M.2.1 pc = .ok (.aload 4, 2)) (hq : pc + 2 = q) (k : TT X q (u0 :: u1 :: u2 :: u3 :: .null :: L) (.null :: S) μ) : TT X pc (u0 :: u1 :: u2 :: u3 :: .null :: L) S μ := by
  obtain ⟨p, l', e, R, s, m, args, below, meth, c, Z, ce, sl, g, M', n0⟩ := X
  obtain ⟨rfl, rfl, rfl, hx, hb, hml, ho, hts, hK, hSS, hg, hfr, hlo, hce, hsl⟩ := hX
  subst hq
  intro H locs ls hP hS hl
  exact lv_aloadN hx hb hd (tl_ld hl (i := 4) (v := .null) rfl rfl) (k H locs ls hP hS hl)
theorem tt_as4N {X : XT} {l : Launch} {d : Nat} {M : MD} (hX : Cx X l d M) {pc q : Nat} {L S : List Value} {μ : Mem} {u0 u1 u2 u3 w : Value} (hd : decode M.2.1 pc = .ok (.astore 4, 2)) (hq : pc + 2 = q) (hn : 4 < M.2.2.1) (k : TT X q (u0 :: u1 :: u2 :: u3 :: .null :: L) S μ) : TT X pc (u0 :: u1 :: u2 :: u3 :: w :: L) (.null :: S) μ := by
  obtain ⟨p, l', e, R, s, m, args, below, meth, c, Z, ce, sl, g, M', n0⟩ := X
  obtain ⟨rfl, rfl, rfl, hx, hb, hml, ho, hts, hK, hSS, hg, hfr, hlo, hce, hsl⟩ := hX
  subst hq
  intro H locs ls hP hS hl
  exact lv_astoreN hx hb hd hl hn rfl (fun ls' hl' => k H locs ls' hP hS (lv_mono hl' (tl_set (L := u0 :: u1 :: u2 :: u3 :: w :: L) (i := 4) (v := .null))))
