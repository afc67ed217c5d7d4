/-! THE LAW'S FRAME: its script, and what survives the other side's calls -/
abbrev mL_law : MD := (yL_law, cL_law, 4, some .boolean, RL)
/-- the script: L ints xs, at the cell that the number 200 stands for -/
def LE (X : XT) (Ln : Nat) (xs : Nat → Int32) : Prop :=
  match X with | (p, l, e, R, s, m, args, below, meth, c, Z, ce, sl, g, M', n) => va_X (g.2.2.1 200) Ln xs s s.heap ∧ g.2.2.1 200 < s.heap.size ∧ ¬ AA g s.heap.size (g.2.2.1 200)
section LW
variable {X : XT} {l : Launch} {d : Nat} {M : MD}
theorem tt_sr (hX : Cx X l d M) {Ln : Nat} {xs : Nat → Int32} (hE : LE X Ln xs) {pc q : Nat} {L S : List Value} {μ : Mem} {i : Int32} (hin : vp_in i Ln) (hd : decode M.2.1 pc = .ok (.iaload, 1)) (hq : pc + 1 = q) (k : TT X q L (.int (xs i.toNatClampNeg) :: S) μ) : TT X pc L (.int i :: .ref 200 :: S) μ := by
  obtain ⟨p, l', e, R, s, m, args, below, meth, c, Z, ce, sl, g, M', n0⟩ := X
  obtain ⟨rfl, rfl, rfl, hx, hb, hml, ho, hts, hK, hSS, hg, hfr, hlo, hce, hsl⟩ := hX
  obtain ⟨h1, h2, h3⟩ := hE
  subst hq
  intro H locs ls hP hS hl
  exact va_sld hx hb h1 h2 h3 hS hin hd (k H locs ls hP hS hl)
theorem tt_sn (hX : Cx X l d M) {Ln : Nat} {xs : Nat → Int32} (hE : LE X Ln xs) {pc q : Nat} {L S : List Value} {μ : Mem} (hd : decode M.2.1 pc = .ok (.arraylength, 1)) (hq : pc + 1 = q) (k : TT X q L (.int (nI Ln) :: S) μ) : TT X pc L (.ref 200 :: S) μ := by
  obtain ⟨p, l', e, R, s, m, args, below, meth, c, Z, ce, sl, g, M', n0⟩ := X
  obtain ⟨rfl, rfl, rfl, hx, hb, hml, ho, hts, hK, hSS, hg, hfr, hlo, hce, hsl⟩ := hX
  obtain ⟨h1, h2, h3⟩ := hE
  subst hq
  intro H locs ls hP hS hl
  exact va_slen hx hb h1 h2 h3 hS hd (k H locs ls hP hS hl)
theorem tt_lcmpE (hX : Cx X l d M) {pc q : Nat} {L S : List Value} {μ : Mem} {x : Int64} (hd : decode M.2.1 pc = .ok (.lcmp, 1)) (hq : pc + 1 = q) (k : TT X q L (.int 0 :: S) μ) : TT X pc L (.long x :: .long x :: S) μ := by
  obtain ⟨p, l', e, R, s, m, args, below, meth, c, Z, ce, sl, g, M', n0⟩ := X
  obtain ⟨rfl, rfl, rfl, hx, hb, hml, ho, hts, hK, hSS, hg, hfr, hlo, hce, hsl⟩ := hX
  subst hq
  intro H locs ls hP hS hl
  refine W.lcmp hx hb hd ?_
  rw [show lg_cmp x x = 0 by first | simp [lg_cmp_eq] | (unfold lg_cmp; simp)]
  exact k H locs ls hP hS hl
end LW
theorem hoX8 : HO 0 8 := ⟨by decide, _, rfl⟩
theorem hoX9 : HO 24 9 := ⟨by decide, _, rfl⟩
theorem frm.ol {μ μ' : Mem} (h : frm cO μ μ') : frm cL μ μ' := h.mono (by decide)
theorem CR.mdl {μ μ' : Mem} {S : ST} (h : CR μ S) (hf : frm mL μ μ') : CR μ' S := by
  obtain ⟨K, B, hs, ks, im, ls, tx, pp⟩ := S
  obtain ⟨h1, h2, h3, h4, h5, h6, h7⟩ := h
  exact ⟨h1.frm hf (by decide) (by decide), h2.frm hf (by decide), h3.frm hf (by decide), h4.frm hf (by decide) (by decide) (by decide), h5.frm hf (by decide) (by decide), h6.frm hf (by decide) (by decide), h7.frm hf (by decide) (by decide)⟩
theorem MR.cls {μ μ' : Mem} {S : ST} (h : MR μ S) (hf : frm cL μ μ') : MR μ' S := by
  obtain ⟨K, B, hs, ks, im, ls, tx, pp⟩ := S
  obtain ⟨⟨h1, h8, h9⟩, h2, h3, h4, h5, h6, h7⟩ := h
  have hm : mf cL μ μ' := ⟨fun i hi _ => hf i hi, fun k _ => by rw [hf 24 (by decide)]⟩
  exact ⟨⟨h1, by rw [hf 24 (by decide)]; exact h8, h9.mf hm (by decide) (by decide)⟩, h2.wk hm (by decide), h3.wk hm (by decide), h4.wk hm (by decide), h5.wk hm (by decide), h6.wk hm (by decide), h7.wk hm (by decide)⟩
