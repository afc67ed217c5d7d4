/-! SYSTEM.ARRAYCOPY -/
theorem acw1 : Cond.native arraycopyName ∈ wsL_law := lk_r8 _ (List.mem_of_getElem? (i := 3) rfl)
theorem acw2 : Cond.static arraycopyName ∈ wsL_law := lk_r8 _ (List.mem_of_getElem? (i := 4) rfl)
theorem acw3 : Cond.initialized "java/lang/System" ∈ wsL_law := lk_r8 _ (List.mem_of_getElem? (i := 5) rfl)
theorem ac_X0_19 : Cond.methodLink RX0 19 arraycopyName ∈ wsL_law := lk_r8 _ (List.mem_of_getElem? (i := 2) rfl)
theorem ac_X9_101 : Cond.methodLink RX9 101 arraycopyName ∈ wsL_law := lk_r9 _ (List.mem_of_getElem? (i := 22) rfl)
theorem ac_X3_32 : Cond.methodLink RX3 32 arraycopyName ∈ wsL_law := lk_r42 _ (List.mem_of_getElem? (i := 8) rfl)
theorem nfw : nativeFrameWords "java/lang/System" "arraycopy" 5 ≤ 21 := by decide +kernel
theorem tt_acopy {X : XT} {l : Launch} {d : Nat} {M : MD} (hX : Cx X l d M) (hd1 : 1 ≤ d) {idx pc q : Nat} {L S : List Value} {μ : Mem} {a0 a t n0 n1 sp dp n : Nat} {ty : FieldType} (hlk : Cond.methodLink M.2.2.2.2 idx arraycopyName ∈ wsL_law) (hA0 : HA a0 t n0) (hA : HA a t n1) (hty : tyL[t]? = some ty) (hprim : refKind ty = false) (h4 : sp + n ≤ n0) (h5 : dp + n ≤ n1) (hfit : ∀ i, i < n → fits ty (.int (μ a0 (sp + i))) = true) (hS0 : S = []) (hd : decode M.2.1 pc = .ok (.invokestatic idx, 3)) (hq : pc + 3 = q) (kk : TT X q L S (mset μ a (va_cpy (μ a0) (μ a) sp dp n))) : TT X pc L (.int (nI n) :: .int (nI dp) :: .ref a :: .int (nI sp) :: .ref a0 :: S) μ := by
  obtain ⟨p, l', e, R, s, m, args, below, meth, c, Z, ce, sl, g, M', n0'⟩ := X
  obtain ⟨rfl, rfl, rfl, hx, hb, hml, ho, hts, hK, hSS, hg, hfr, hlo, hce, hsl⟩ := hX
  subst hq
  subst hS0
  intro H locs ls hP hS hl
  have b0 := hA0.2.2
  have b1 := hA.2.2
  have e1 : (nI n).toNatClampNeg = n := nI_clamp (by omega)
  have e2 : (nI sp).toNatClampNeg = sp := nI_clamp (by omega)
  have e3 : (nI dp).toNatClampNeg = dp := nI_clamp (by omega)
  have nf := nfw
  refine va_copyi (D := gD g) hx hb (by rw [hml]; exact hl.1.symm) ho (hts _ hlk) (hts _ acw1) (hts _ acw2) (hts _ acw3) hK.1 hP (wls_D hg μ _) hS a0 a t t (hA0.w g μ) (hA.w g μ) (tysG_at hty) (tysG_at hty) hprim (nI_pos (by omega)) (nI_pos (by omega)) (nI_pos (by omega)) (by rw [e1, e2]; exact h4) (by rw [e1, e3]; exact h5) (by rw [e1, e2]; exact hfit) (by omega) (by show 0 + (_ + 11) ≤ _; omega) hd (fun H1 locs1 hP1 _ hS1 => ?_)
  rw [e1, e2, e3, hA.set g μ] at hP1
  exact kk H1 locs1 ls hP1 hS1 hl
