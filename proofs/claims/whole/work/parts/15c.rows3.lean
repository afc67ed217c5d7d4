/-! MATH.MIN, NULL -/
theorem miw1 : Cond.static Lib.Math.min.name ∈ wsL_law := lk_r7 _ (List.mem_of_getElem? (i := 19) rfl)
theorem miw2 : Cond.code Lib.Math.min.name Lib.Math.min.code 2 (some .int) ∈ wsL_law := lk_r7 _ (List.mem_of_getElem? (i := 21) rfl)
theorem miw3 : Cond.initialized "java/lang/Math" ∈ wsL_law := by decide +kernel
theorem mi_X2_29 : Cond.methodLink RX2 29 Lib.Math.min.name ∈ wsL_law := lk_r7 _ (List.mem_of_getElem? (i := 18) rfl)
theorem mi_X3_22 : Cond.methodLink RX3 22 Lib.Math.min.name ∈ wsL_law := lk_r20 _ (List.mem_of_getElem? (i := 4) rfl)
section R3
variable {X : XT} {l : Launch} {d : Nat} {M : MD}
theorem tt_min (hX : Cx X l d M) (hd1 : 1 ≤ d) {idx pc q : Nat} {L S : List Value} {μ : Mem} {x y : Int32} (hlk : Cond.methodLink M.2.2.2.2 idx Lib.Math.min.name ∈ wsL_law) (hcat : (S.map fun v => v.category).sum ≤ 8) (hd : decode M.2.1 pc = .ok (.invokestatic idx, 3)) (hq : pc + 3 = q) (kk : TT X q L (.int (if y < x then y else x) :: S) μ) : TT X pc L (.int y :: .int x :: S) μ := by
  obtain ⟨p, l', e, R, s, m, args, below, meth, c, Z, ce, sl, g, M', n0'⟩ := X
  obtain ⟨rfl, rfl, rfl, hx, hb, hml, ho, hts, hK, hSS, hg, hfr, hlo, hce, hsl⟩ := hX
  subst hq
  intro H locs ls hP hS hl
  have e1 : ((S.map (tv g)).map fun v => v.category).sum ≤ 8 := by rw [tt_catM]; exact hcat
  exact va_mmin hx hb (by rw [hml]; exact hl.1.symm) ho (hts _ hlk) (hts _ miw1) (hts _ miw3) (hts _ miw2) (by omega) (by omega) hce hsl hd (kk H locs ls hP hS hl)
theorem tt_null (hX : Cx X l d M) {pc q : Nat} {L S : List Value} {μ : Mem} (hd : decode M.2.1 pc = .ok (.aconst_null, 1)) (hq : pc + 1 = q) (kk : TT X q L (.null :: S) μ) : TT X pc L S μ := by
  obtain ⟨p, l', e, R, s, m, args, below, meth, c, Z, ce, sl, g, M', n0'⟩ := X
  obtain ⟨rfl, rfl, rfl, hx, hb, hml, ho, hts, hK, hSS, hg, hfr, hlo, hce, hsl⟩ := hX
  subst hq
  intro H locs ls hP hS hl
  exact lv_null hx hb hd (kk H locs ls hP hS hl)
end R3
