/-! THE ROWS OF THE JUDGEMENT (written by wip/whole/gen/rows.py) -/
theorem Cx.mono {X : XT} {l : Launch} {d d' : Nat} {M : MD} (hX : Cx X l d M) (h : d' ≤ d) : Cx X l d' M := by
  obtain ⟨p, l', e, R, s, m, args, below, meth, c, Z, ce, sl, g, M', n0⟩ := X
  obtain ⟨a1, a2, a3, a4, a5, a6, a7, a8, a9, b1, b2, b3, b4, b5⟩ := hX
  exact ⟨a1, a2, a3, a4, a5, a6, a7, a8, a9, b1, b2, by omega, by omega, b5⟩
theorem tl_mem (g : Geo) : ∀ (L : List Value) (j i : Nat) (v : Value), L[i]? = some v → okv v = true → (j + i, tv g v) ∈ tl g j L
  | [], j, i, v, h, _ => by simp at h
  | w :: L, j, 0, v, h, hv => by
    simp only [List.getElem?_cons_zero, Option.some.injEq] at h
    subst h
    simp [tl, hv]
  | w :: L, j, i + 1, v, h, hv => by
    simp only [List.getElem?_cons_succ] at h
    have := tl_mem g L (j + 1) i v h hv
    rw [show j + (i + 1) = j + 1 + i by omega]
    simp only [tl]
    split
    · exact List.mem_cons_of_mem _ this
    · exact this
theorem tl_of (g : Geo) : ∀ (L : List Value) (j : Nat) (q : Nat × Value), q ∈ tl g j L → ∃ (i : Nat) (v : Value), q = (j + i, tv g v) ∧ L[i]? = some v ∧ okv v = true
  | [], j, q, h => by simp [tl] at h
  | w :: L, j, q, h => by
    simp only [tl] at h
    have rest : q ∈ tl g (j + 1) L → ∃ (i : Nat) (v : Value), q = (j + i, tv g v) ∧ (w :: L)[i]? = some v ∧ okv v = true := fun h => by
      obtain ⟨i, v, h1, h2, h3⟩ := tl_of g L (j + 1) q h
      exact ⟨i + 1, v, by rw [h1]; congr 1; omega, by simpa using h2, h3⟩
    split at h
    · rcases List.mem_cons.mp h with h | h
      · exact ⟨0, w, by rw [h]; rfl, rfl, by assumption⟩
      · exact rest h
    · exact rest h
theorem tv_cat {g : Geo} {v : Value} (h : okv v = true) : (tv g v).category = 1 := by cases v <;> first | rfl | cases h
theorem lv_mono {ls : Array Slot} {nL : Nat} {l1 l2 : List (Nat × Value)} (h : lv_has ls nL l1) (hs : ∀ q ∈ l2, q ∈ l1) : lv_has ls nL l2 := ⟨h.1, h.2.1, fun q hq => h.2.2 q (hs q hq)⟩
theorem tl_set {g : Geo} {L : List Value} {i : Nat} {v : Value} (q : Nat × Value) (h : q ∈ tl g 0 (L.set i v)) : q ∈ (i, tv g v) :: (tl g 0 L).filter (fun q => !(q.1 == i) && !(q.1 + 1 == i && q.2.category == 2)) := by
  obtain ⟨k, w, h1, h2, h3⟩ := tl_of g _ _ _ h
  by_cases e : k = i
  · subst e
    have hl : k < L.length := by
      rcases Nat.lt_or_ge k L.length with z | z
      · exact z
      · rw [List.getElem?_eq_none (by simpa using z)] at h2
        cases h2
    rw [List.getElem?_set_self hl] at h2
    cases h2
    rw [h1, Nat.zero_add]
    exact List.mem_cons_self
  · rw [List.getElem?_set_ne (Ne.symm e)] at h2
    refine List.mem_cons_of_mem _ (List.mem_filter.mpr ⟨?_, ?_⟩)
    · rw [h1]
      exact tl_mem g L 0 k w h2 h3
    · have hc := tv_cat (g := g) h3
      rw [h1]
      simp only [Nat.zero_add]
      rw [hc]
      simp [e]
theorem tl_ld {g : Geo} {ls : Array Slot} {nL : Nat} {L : List Value} (hl : lv_has ls nL (tl g 0 L)) {i : Nat} {v : Value} (h : L[i]? = some v) (hv : okv v = true) : ls[i]? = some (.val (tv g v)) := by
  have := hl.2.2 _ (tl_mem g L 0 i v h hv)
  simpa using this
theorem nI_ofInt (n : Nat) : Int32.ofInt (n : Int) = nI n := rfl
theorem tt_iconst {X : XT} {l : Launch} {d : Nat} {M : MD} (hX : Cx X l d M) {pc q : Nat} {L S : List Value} {μ : Mem} {n : Int} {v : Int32} (hv : Int32.ofInt n = v) (hd : decode M.2.1 pc = .ok (.iconst n, 1)) (hq : pc + 1 = q) (k : TT X q L (.int v :: S) μ) : TT X pc L (S) μ := by
  obtain ⟨p, l', e, R, s, m, args, below, meth, c, Z, ce, sl, g, M', n0⟩ := X
  obtain ⟨rfl, rfl, rfl, hx, hb, hml, ho, hts, hK, hSS, hg, hfr, hlo, hce, hsl⟩ := hX
  subst hq
  intro H locs ls hP hS hl
  exact lv_iconst hx hb hd hv (k H locs ls hP hS hl)
theorem tt_bipush {X : XT} {l : Launch} {d : Nat} {M : MD} (hX : Cx X l d M) {pc q : Nat} {L S : List Value} {μ : Mem} {n : Int} {v : Int32} (hv : (Int8.ofInt n).toInt32 = v) (hd : decode M.2.1 pc = .ok (.bipush n, 2)) (hq : pc + 2 = q) (k : TT X q L (.int v :: S) μ) : TT X pc L (S) μ := by
  obtain ⟨p, l', e, R, s, m, args, below, meth, c, Z, ce, sl, g, M', n0⟩ := X
  obtain ⟨rfl, rfl, rfl, hx, hb, hml, ho, hts, hK, hSS, hg, hfr, hlo, hce, hsl⟩ := hX
  subst hq
  intro H locs ls hP hS hl
  exact lv_bipush hx hb hd hv (k H locs ls hP hS hl)
theorem tt_sipush {X : XT} {l : Launch} {d : Nat} {M : MD} (hX : Cx X l d M) {pc q : Nat} {L S : List Value} {μ : Mem} {n : Int} {v : Int32} (hv : (Int16.ofInt n).toInt32 = v) (hd : decode M.2.1 pc = .ok (.sipush n, 3)) (hq : pc + 3 = q) (k : TT X q L (.int v :: S) μ) : TT X pc L (S) μ := by
  obtain ⟨p, l', e, R, s, m, args, below, meth, c, Z, ce, sl, g, M', n0⟩ := X
  obtain ⟨rfl, rfl, rfl, hx, hb, hml, ho, hts, hK, hSS, hg, hfr, hlo, hce, hsl⟩ := hX
  subst hq
  intro H locs ls hP hS hl
  exact lv_sipush hx hb hd hv (k H locs ls hP hS hl)
theorem tt_iadd {X : XT} {l : Launch} {d : Nat} {M : MD} (hX : Cx X l d M) {pc q : Nat} {L S : List Value} {μ : Mem} {x y : Int32} (hd : decode M.2.1 pc = .ok (.iadd, 1)) (hq : pc + 1 = q) (k : TT X q L (.int (x + y) :: S) μ) : TT X pc L (.int y :: .int x :: S) μ := by
  obtain ⟨p, l', e, R, s, m, args, below, meth, c, Z, ce, sl, g, M', n0⟩ := X
  obtain ⟨rfl, rfl, rfl, hx, hb, hml, ho, hts, hK, hSS, hg, hfr, hlo, hce, hsl⟩ := hX
  subst hq
  intro H locs ls hP hS hl
  exact lv_iadd hx hb hd  (k H locs ls hP hS hl)
theorem tt_isub {X : XT} {l : Launch} {d : Nat} {M : MD} (hX : Cx X l d M) {pc q : Nat} {L S : List Value} {μ : Mem} {x y : Int32} (hd : decode M.2.1 pc = .ok (.isub, 1)) (hq : pc + 1 = q) (k : TT X q L (.int (x - y) :: S) μ) : TT X pc L (.int y :: .int x :: S) μ := by
  obtain ⟨p, l', e, R, s, m, args, below, meth, c, Z, ce, sl, g, M', n0⟩ := X
  obtain ⟨rfl, rfl, rfl, hx, hb, hml, ho, hts, hK, hSS, hg, hfr, hlo, hce, hsl⟩ := hX
  subst hq
  intro H locs ls hP hS hl
  exact lv_isub hx hb hd  (k H locs ls hP hS hl)
theorem tt_imul {X : XT} {l : Launch} {d : Nat} {M : MD} (hX : Cx X l d M) {pc q : Nat} {L S : List Value} {μ : Mem} {x y : Int32} (hd : decode M.2.1 pc = .ok (.imul, 1)) (hq : pc + 1 = q) (k : TT X q L (.int (x * y) :: S) μ) : TT X pc L (.int y :: .int x :: S) μ := by
  obtain ⟨p, l', e, R, s, m, args, below, meth, c, Z, ce, sl, g, M', n0⟩ := X
  obtain ⟨rfl, rfl, rfl, hx, hb, hml, ho, hts, hK, hSS, hg, hfr, hlo, hce, hsl⟩ := hX
  subst hq
  intro H locs ls hP hS hl
  exact lv_imul hx hb hd  (k H locs ls hP hS hl)
theorem tt_iand {X : XT} {l : Launch} {d : Nat} {M : MD} (hX : Cx X l d M) {pc q : Nat} {L S : List Value} {μ : Mem} {x y : Int32} (hd : decode M.2.1 pc = .ok (.iand, 1)) (hq : pc + 1 = q) (k : TT X q L (.int (x &&& y) :: S) μ) : TT X pc L (.int y :: .int x :: S) μ := by
  obtain ⟨p, l', e, R, s, m, args, below, meth, c, Z, ce, sl, g, M', n0⟩ := X
  obtain ⟨rfl, rfl, rfl, hx, hb, hml, ho, hts, hK, hSS, hg, hfr, hlo, hce, hsl⟩ := hX
  subst hq
  intro H locs ls hP hS hl
  exact lv_iand hx hb hd  (k H locs ls hP hS hl)
theorem tt_ior {X : XT} {l : Launch} {d : Nat} {M : MD} (hX : Cx X l d M) {pc q : Nat} {L S : List Value} {μ : Mem} {x y : Int32} (hd : decode M.2.1 pc = .ok (.ior, 1)) (hq : pc + 1 = q) (k : TT X q L (.int (x ||| y) :: S) μ) : TT X pc L (.int y :: .int x :: S) μ := by
  obtain ⟨p, l', e, R, s, m, args, below, meth, c, Z, ce, sl, g, M', n0⟩ := X
  obtain ⟨rfl, rfl, rfl, hx, hb, hml, ho, hts, hK, hSS, hg, hfr, hlo, hce, hsl⟩ := hX
  subst hq
  intro H locs ls hP hS hl
  exact lv_ior hx hb hd  (k H locs ls hP hS hl)
theorem tt_ixor {X : XT} {l : Launch} {d : Nat} {M : MD} (hX : Cx X l d M) {pc q : Nat} {L S : List Value} {μ : Mem} {x y : Int32} (hd : decode M.2.1 pc = .ok (.ixor, 1)) (hq : pc + 1 = q) (k : TT X q L (.int (x ^^^ y) :: S) μ) : TT X pc L (.int y :: .int x :: S) μ := by
  obtain ⟨p, l', e, R, s, m, args, below, meth, c, Z, ce, sl, g, M', n0⟩ := X
  obtain ⟨rfl, rfl, rfl, hx, hb, hml, ho, hts, hK, hSS, hg, hfr, hlo, hce, hsl⟩ := hX
  subst hq
  intro H locs ls hP hS hl
  exact lv_ixor hx hb hd  (k H locs ls hP hS hl)
theorem tt_ishl {X : XT} {l : Launch} {d : Nat} {M : MD} (hX : Cx X l d M) {pc q : Nat} {L S : List Value} {μ : Mem} {x y : Int32} (hd : decode M.2.1 pc = .ok (.ishl, 1)) (hq : pc + 1 = q) (k : TT X q L (.int (x <<< (y &&& 31)) :: S) μ) : TT X pc L (.int y :: .int x :: S) μ := by
  obtain ⟨p, l', e, R, s, m, args, below, meth, c, Z, ce, sl, g, M', n0⟩ := X
  obtain ⟨rfl, rfl, rfl, hx, hb, hml, ho, hts, hK, hSS, hg, hfr, hlo, hce, hsl⟩ := hX
  subst hq
  intro H locs ls hP hS hl
  exact lv_ishl hx hb hd  (k H locs ls hP hS hl)
theorem tt_ishr {X : XT} {l : Launch} {d : Nat} {M : MD} (hX : Cx X l d M) {pc q : Nat} {L S : List Value} {μ : Mem} {x y : Int32} (hd : decode M.2.1 pc = .ok (.ishr, 1)) (hq : pc + 1 = q) (k : TT X q L (.int (x >>> (y &&& 31)) :: S) μ) : TT X pc L (.int y :: .int x :: S) μ := by
  obtain ⟨p, l', e, R, s, m, args, below, meth, c, Z, ce, sl, g, M', n0⟩ := X
  obtain ⟨rfl, rfl, rfl, hx, hb, hml, ho, hts, hK, hSS, hg, hfr, hlo, hce, hsl⟩ := hX
  subst hq
  intro H locs ls hP hS hl
  exact lv_ishr hx hb hd  (k H locs ls hP hS hl)
theorem tt_iushr {X : XT} {l : Launch} {d : Nat} {M : MD} (hX : Cx X l d M) {pc q : Nat} {L S : List Value} {μ : Mem} {x y v : Int32} (hv : (x.toUInt32 >>> (y.toUInt32 &&& Int32.toUInt32 31)).toInt32 = v) (hd : decode M.2.1 pc = .ok (.iushr, 1)) (hq : pc + 1 = q) (k : TT X q L (.int v :: S) μ) : TT X pc L (.int y :: .int x :: S) μ := by
  obtain ⟨p, l', e, R, s, m, args, below, meth, c, Z, ce, sl, g, M', n0⟩ := X
  obtain ⟨rfl, rfl, rfl, hx, hb, hml, ho, hts, hK, hSS, hg, hfr, hlo, hce, hsl⟩ := hX
  subst hq
  intro H locs ls hP hS hl
  exact lv_iushr hx hb hd hv (k H locs ls hP hS hl)
theorem tt_irem {X : XT} {l : Launch} {d : Nat} {M : MD} (hX : Cx X l d M) {pc q : Nat} {L S : List Value} {μ : Mem} {x y : Int32} (hne : ¬ y = 0) (hd : decode M.2.1 pc = .ok (.irem, 1)) (hq : pc + 1 = q) (k : TT X q L (.int (x - x / y * y) :: S) μ) : TT X pc L (.int y :: .int x :: S) μ := by
  obtain ⟨p, l', e, R, s, m, args, below, meth, c, Z, ce, sl, g, M', n0⟩ := X
  obtain ⟨rfl, rfl, rfl, hx, hb, hml, ho, hts, hK, hSS, hg, hfr, hlo, hce, hsl⟩ := hX
  subst hq
  intro H locs ls hP hS hl
  exact lv_irem hx hb hd hne (k H locs ls hP hS hl)
theorem tt_idiv {X : XT} {l : Launch} {d : Nat} {M : MD} (hX : Cx X l d M) {pc q : Nat} {L S : List Value} {μ : Mem} {x y : Int32} (hne : ¬ y = 0) (hd : decode M.2.1 pc = .ok (.idiv, 1)) (hq : pc + 1 = q) (k : TT X q L (.int (x / y) :: S) μ) : TT X pc L (.int y :: .int x :: S) μ := by
  obtain ⟨p, l', e, R, s, m, args, below, meth, c, Z, ce, sl, g, M', n0⟩ := X
  obtain ⟨rfl, rfl, rfl, hx, hb, hml, ho, hts, hK, hSS, hg, hfr, hlo, hce, hsl⟩ := hX
  subst hq
  intro H locs ls hP hS hl
  exact lv_idiv hx hb hd hne (k H locs ls hP hS hl)
theorem tt_ineg {X : XT} {l : Launch} {d : Nat} {M : MD} (hX : Cx X l d M) {pc q : Nat} {L S : List Value} {μ : Mem} {x : Int32} (hd : decode M.2.1 pc = .ok (.ineg, 1)) (hq : pc + 1 = q) (k : TT X q L (.int (-x) :: S) μ) : TT X pc L (.int x :: S) μ := by
  obtain ⟨p, l', e, R, s, m, args, below, meth, c, Z, ce, sl, g, M', n0⟩ := X
  obtain ⟨rfl, rfl, rfl, hx, hb, hml, ho, hts, hK, hSS, hg, hfr, hlo, hce, hsl⟩ := hX
  subst hq
  intro H locs ls hP hS hl
  exact lv_ineg hx hb hd  (k H locs ls hP hS hl)
theorem tt_i2b {X : XT} {l : Launch} {d : Nat} {M : MD} (hX : Cx X l d M) {pc q : Nat} {L S : List Value} {μ : Mem} {x v : Int32} (hv : x.toInt8.toInt32 = v) (hd : decode M.2.1 pc = .ok (.i2b, 1)) (hq : pc + 1 = q) (k : TT X q L (.int v :: S) μ) : TT X pc L (.int x :: S) μ := by
  obtain ⟨p, l', e, R, s, m, args, below, meth, c, Z, ce, sl, g, M', n0⟩ := X
  obtain ⟨rfl, rfl, rfl, hx, hb, hml, ho, hts, hK, hSS, hg, hfr, hlo, hce, hsl⟩ := hX
  subst hq
  intro H locs ls hP hS hl
  exact lv_i2b hx hb hd hv (k H locs ls hP hS hl)
theorem tt_i2l {X : XT} {l : Launch} {d : Nat} {M : MD} (hX : Cx X l d M) {pc q : Nat} {L S : List Value} {μ : Mem} {x : Int32} {v : Int64} (hv : x.toInt64 = v) (hd : decode M.2.1 pc = .ok (.i2l, 1)) (hq : pc + 1 = q) (k : TT X q L (.long v :: S) μ) : TT X pc L (.int x :: S) μ := by
  obtain ⟨p, l', e, R, s, m, args, below, meth, c, Z, ce, sl, g, M', n0⟩ := X
  obtain ⟨rfl, rfl, rfl, hx, hb, hml, ho, hts, hK, hSS, hg, hfr, hlo, hce, hsl⟩ := hX
  subst hq
  intro H locs ls hP hS hl
  exact lv_i2l hx hb hd hv (k H locs ls hP hS hl)
theorem tt_dup {X : XT} {l : Launch} {d : Nat} {M : MD} (hX : Cx X l d M) {pc q : Nat} {L S : List Value} {μ : Mem} {v : Value} (hv : okv v = true) (hd : decode M.2.1 pc = .ok (.dup, 1)) (hq : pc + 1 = q) (k : TT X q L (v :: v :: S) μ) : TT X pc L (v :: S) μ := by
  obtain ⟨p, l', e, R, s, m, args, below, meth, c, Z, ce, sl, g, M', n0⟩ := X
  obtain ⟨rfl, rfl, rfl, hx, hb, hml, ho, hts, hK, hSS, hg, hfr, hlo, hce, hsl⟩ := hX
  subst hq
  intro H locs ls hP hS hl
  exact lv_dup hx hb hd (tv_cat hv) (k H locs ls hP hS hl)
theorem tt_pop {X : XT} {l : Launch} {d : Nat} {M : MD} (hX : Cx X l d M) {pc q : Nat} {L S : List Value} {μ : Mem} {v : Value} (hv : okv v = true) (hd : decode M.2.1 pc = .ok (.pop, 1)) (hq : pc + 1 = q) (k : TT X q L S μ) : TT X pc L (v :: S) μ := by
  obtain ⟨p, l', e, R, s, m, args, below, meth, c, Z, ce, sl, g, M', n0⟩ := X
  obtain ⟨rfl, rfl, rfl, hx, hb, hml, ho, hts, hK, hSS, hg, hfr, hlo, hce, hsl⟩ := hX
  subst hq
  intro H locs ls hP hS hl
  exact lv_pop hx hb hd (tv_cat hv) (k H locs ls hP hS hl)
theorem tt_dup2 {X : XT} {l : Launch} {d : Nat} {M : MD} (hX : Cx X l d M) {pc q : Nat} {L S : List Value} {μ : Mem} {v w : Value} (hv : okv v = true) (hw : okv w = true) (hd : decode M.2.1 pc = .ok (.dup2, 1)) (hq : pc + 1 = q) (k : TT X q L (w :: v :: w :: v :: S) μ) : TT X pc L (w :: v :: S) μ := by
  obtain ⟨p, l', e, R, s, m, args, below, meth, c, Z, ce, sl, g, M', n0⟩ := X
  obtain ⟨rfl, rfl, rfl, hx, hb, hml, ho, hts, hK, hSS, hg, hfr, hlo, hce, hsl⟩ := hX
  subst hq
  intro H locs ls hP hS hl
  exact lv_dup2_11 hx hb hd (tv_cat hw) (tv_cat hv) (k H locs ls hP hS hl)
theorem tt_il0 {X : XT} {l : Launch} {d : Nat} {M : MD} (hX : Cx X l d M) {pc q : Nat} {L S : List Value} {μ : Mem}  {x : Int32} (hd : decode M.2.1 pc = .ok (.iload_n 0, 1)) (hq : pc + 1 = q) (k : TT X q (.int x :: L) (.int x :: S) μ) : TT X pc (.int x :: L) S μ := by
  obtain ⟨p, l', e, R, s, m, args, below, meth, c, Z, ce, sl, g, M', n0⟩ := X
  obtain ⟨rfl, rfl, rfl, hx, hb, hml, ho, hts, hK, hSS, hg, hfr, hlo, hce, hsl⟩ := hX
  subst hq
  intro H locs ls hP hS hl
  exact lv_iload_n hx hb hd rfl (tl_ld hl (i := 0) (v := .int x) rfl rfl) (k H locs ls hP hS hl)
theorem tt_is0 {X : XT} {l : Launch} {d : Nat} {M : MD} (hX : Cx X l d M) {pc q : Nat} {L S : List Value} {μ : Mem}  {w : Value} {x : Int32} (hd : decode M.2.1 pc = .ok (.istore_n 0, 1)) (hq : pc + 1 = q) (hn : 0 < M.2.2.1) (k : TT X q (.int x :: L) S μ) : TT X pc (w :: L) (.int x :: S) μ := by
  obtain ⟨p, l', e, R, s, m, args, below, meth, c, Z, ce, sl, g, M', n0⟩ := X
  obtain ⟨rfl, rfl, rfl, hx, hb, hml, ho, hts, hK, hSS, hg, hfr, hlo, hce, hsl⟩ := hX
  subst hq
  intro H locs ls hP hS hl
  exact lv_istore_n hx hb hd rfl hl hn rfl (fun ls' hl' => k H locs ls' hP hS (lv_mono hl' (tl_set (L := w :: L) (i := 0) (v := .int x))))
theorem tt_al0 {X : XT} {l : Launch} {d : Nat} {M : MD} (hX : Cx X l d M) {pc q : Nat} {L S : List Value} {μ : Mem}  {x : Nat} (hd : decode M.2.1 pc = .ok (.aload_n 0, 1)) (hq : pc + 1 = q) (k : TT X q (.ref x :: L) (.ref x :: S) μ) : TT X pc (.ref x :: L) S μ := by
  obtain ⟨p, l', e, R, s, m, args, below, meth, c, Z, ce, sl, g, M', n0⟩ := X
  obtain ⟨rfl, rfl, rfl, hx, hb, hml, ho, hts, hK, hSS, hg, hfr, hlo, hce, hsl⟩ := hX
  subst hq
  intro H locs ls hP hS hl
  exact lv_aload_n hx hb hd rfl (tl_ld hl (i := 0) (v := .ref x) rfl rfl) (k H locs ls hP hS hl)
theorem tt_as0 {X : XT} {l : Launch} {d : Nat} {M : MD} (hX : Cx X l d M) {pc q : Nat} {L S : List Value} {μ : Mem}  {w : Value} {x : Nat} (hd : decode M.2.1 pc = .ok (.astore_n 0, 1)) (hq : pc + 1 = q) (hn : 0 < M.2.2.1) (k : TT X q (.ref x :: L) S μ) : TT X pc (w :: L) (.ref x :: S) μ := by
  obtain ⟨p, l', e, R, s, m, args, below, meth, c, Z, ce, sl, g, M', n0⟩ := X
  obtain ⟨rfl, rfl, rfl, hx, hb, hml, ho, hts, hK, hSS, hg, hfr, hlo, hce, hsl⟩ := hX
  subst hq
  intro H locs ls hP hS hl
  exact lv_astore_n hx hb hd rfl hl hn rfl (fun ls' hl' => k H locs ls' hP hS (lv_mono hl' (tl_set (L := w :: L) (i := 0) (v := .ref x))))
theorem tt_inc0 {X : XT} {l : Launch} {d : Nat} {M : MD} (hX : Cx X l d M) {pc q : Nat} {L S : List Value} {μ : Mem}  {x v : Int32} {n : Int} (hd : decode M.2.1 pc = .ok (.iinc 0 n, 3)) (hq : pc + 3 = q) (hn : 0 < M.2.2.1) (hv : x + Int32.ofInt n = v) (k : TT X q (.int v :: L) S μ) : TT X pc (.int x :: L) S μ := by
  obtain ⟨p, l', e, R, s, m, args, below, meth, c, Z, ce, sl, g, M', n0⟩ := X
  obtain ⟨rfl, rfl, rfl, hx, hb, hml, ho, hts, hK, hSS, hg, hfr, hlo, hce, hsl⟩ := hX
  subst hq
  intro H locs ls hP hS hl
  have h9 := tl_mem g (.int x :: L) 0 0 (.int x) rfl rfl
  obtain ⟨k9, h8⟩ := List.getElem?_of_mem h9
  exact lv_iinc hx hb hd hl h8 hv hn rfl (fun ls' hl' => k H locs ls' hP hS (lv_mono hl' (tl_set (L := .int x :: L) (i := 0) (v := .int v))))
theorem tt_il1 {X : XT} {l : Launch} {d : Nat} {M : MD} (hX : Cx X l d M) {pc q : Nat} {L S : List Value} {μ : Mem} {u0 : Value} {x : Int32} (hd : decode M.2.1 pc = .ok (.iload_n 1, 1)) (hq : pc + 1 = q) (k : TT X q (u0 :: .int x :: L) (.int x :: S) μ) : TT X pc (u0 :: .int x :: L) S μ := by
  obtain ⟨p, l', e, R, s, m, args, below, meth, c, Z, ce, sl, g, M', n0⟩ := X
  obtain ⟨rfl, rfl, rfl, hx, hb, hml, ho, hts, hK, hSS, hg, hfr, hlo, hce, hsl⟩ := hX
  subst hq
  intro H locs ls hP hS hl
  exact lv_iload_n hx hb hd rfl (tl_ld hl (i := 1) (v := .int x) rfl rfl) (k H locs ls hP hS hl)
theorem tt_is1 {X : XT} {l : Launch} {d : Nat} {M : MD} (hX : Cx X l d M) {pc q : Nat} {L S : List Value} {μ : Mem} {u0 : Value} {w : Value} {x : Int32} (hd : decode M.2.1 pc = .ok (.istore_n 1, 1)) (hq : pc + 1 = q) (hn : 1 < M.2.2.1) (k : TT X q (u0 :: .int x :: L) S μ) : TT X pc (u0 :: w :: L) (.int x :: S) μ := by
  obtain ⟨p, l', e, R, s, m, args, below, meth, c, Z, ce, sl, g, M', n0⟩ := X
  obtain ⟨rfl, rfl, rfl, hx, hb, hml, ho, hts, hK, hSS, hg, hfr, hlo, hce, hsl⟩ := hX
  subst hq
  intro H locs ls hP hS hl
  exact lv_istore_n hx hb hd rfl hl hn rfl (fun ls' hl' => k H locs ls' hP hS (lv_mono hl' (tl_set (L := u0 :: w :: L) (i := 1) (v := .int x))))
theorem tt_al1 {X : XT} {l : Launch} {d : Nat} {M : MD} (hX : Cx X l d M) {pc q : Nat} {L S : List Value} {μ : Mem} {u0 : Value} {x : Nat} (hd : decode M.2.1 pc = .ok (.aload_n 1, 1)) (hq : pc + 1 = q) (k : TT X q (u0 :: .ref x :: L) (.ref x :: S) μ) : TT X pc (u0 :: .ref x :: L) S μ := by
  obtain ⟨p, l', e, R, s, m, args, below, meth, c, Z, ce, sl, g, M', n0⟩ := X
  obtain ⟨rfl, rfl, rfl, hx, hb, hml, ho, hts, hK, hSS, hg, hfr, hlo, hce, hsl⟩ := hX
  subst hq
  intro H locs ls hP hS hl
  exact lv_aload_n hx hb hd rfl (tl_ld hl (i := 1) (v := .ref x) rfl rfl) (k H locs ls hP hS hl)
theorem tt_as1 {X : XT} {l : Launch} {d : Nat} {M : MD} (hX : Cx X l d M) {pc q : Nat} {L S : List Value} {μ : Mem} {u0 : Value} {w : Value} {x : Nat} (hd : decode M.2.1 pc = .ok (.astore_n 1, 1)) (hq : pc + 1 = q) (hn : 1 < M.2.2.1) (k : TT X q (u0 :: .ref x :: L) S μ) : TT X pc (u0 :: w :: L) (.ref x :: S) μ := by
  obtain ⟨p, l', e, R, s, m, args, below, meth, c, Z, ce, sl, g, M', n0⟩ := X
  obtain ⟨rfl, rfl, rfl, hx, hb, hml, ho, hts, hK, hSS, hg, hfr, hlo, hce, hsl⟩ := hX
  subst hq
  intro H locs ls hP hS hl
  exact lv_astore_n hx hb hd rfl hl hn rfl (fun ls' hl' => k H locs ls' hP hS (lv_mono hl' (tl_set (L := u0 :: w :: L) (i := 1) (v := .ref x))))
theorem tt_inc1 {X : XT} {l : Launch} {d : Nat} {M : MD} (hX : Cx X l d M) {pc q : Nat} {L S : List Value} {μ : Mem} {u0 : Value} {x v : Int32} {n : Int} (hd : decode M.2.1 pc = .ok (.iinc 1 n, 3)) (hq : pc + 3 = q) (hn : 1 < M.2.2.1) (hv : x + Int32.ofInt n = v) (k : TT X q (u0 :: .int v :: L) S μ) : TT X pc (u0 :: .int x :: L) S μ := by
  obtain ⟨p, l', e, R, s, m, args, below, meth, c, Z, ce, sl, g, M', n0⟩ := X
  obtain ⟨rfl, rfl, rfl, hx, hb, hml, ho, hts, hK, hSS, hg, hfr, hlo, hce, hsl⟩ := hX
  subst hq
  intro H locs ls hP hS hl
  have h9 := tl_mem g (u0 :: .int x :: L) 0 1 (.int x) rfl rfl
  obtain ⟨k9, h8⟩ := List.getElem?_of_mem h9
  exact lv_iinc hx hb hd hl h8 hv hn rfl (fun ls' hl' => k H locs ls' hP hS (lv_mono hl' (tl_set (L := u0 :: .int x :: L) (i := 1) (v := .int v))))
theorem tt_il2 {X : XT} {l : Launch} {d : Nat} {M : MD} (hX : Cx X l d M) {pc q : Nat} {L S : List Value} {μ : Mem} {u0 u1 : Value} {x : Int32} (hd : decode M.2.1 pc = .ok (.iload_n 2, 1)) (hq : pc + 1 = q) (k : TT X q (u0 :: u1 :: .int x :: L) (.int x :: S) μ) : TT X pc (u0 :: u1 :: .int x :: L) S μ := by
  obtain ⟨p, l', e, R, s, m, args, below, meth, c, Z, ce, sl, g, M', n0⟩ := X
  obtain ⟨rfl, rfl, rfl, hx, hb, hml, ho, hts, hK, hSS, hg, hfr, hlo, hce, hsl⟩ := hX
  subst hq
  intro H locs ls hP hS hl
  exact lv_iload_n hx hb hd rfl (tl_ld hl (i := 2) (v := .int x) rfl rfl) (k H locs ls hP hS hl)
theorem tt_is2 {X : XT} {l : Launch} {d : Nat} {M : MD} (hX : Cx X l d M) {pc q : Nat} {L S : List Value} {μ : Mem} {u0 u1 : Value} {w : Value} {x : Int32} (hd : decode M.2.1 pc = .ok (.istore_n 2, 1)) (hq : pc + 1 = q) (hn : 2 < M.2.2.1) (k : TT X q (u0 :: u1 :: .int x :: L) S μ) : TT X pc (u0 :: u1 :: w :: L) (.int x :: S) μ := by
  obtain ⟨p, l', e, R, s, m, args, below, meth, c, Z, ce, sl, g, M', n0⟩ := X
  obtain ⟨rfl, rfl, rfl, hx, hb, hml, ho, hts, hK, hSS, hg, hfr, hlo, hce, hsl⟩ := hX
  subst hq
  intro H locs ls hP hS hl
  exact lv_istore_n hx hb hd rfl hl hn rfl (fun ls' hl' => k H locs ls' hP hS (lv_mono hl' (tl_set (L := u0 :: u1 :: w :: L) (i := 2) (v := .int x))))
theorem tt_al2 {X : XT} {l : Launch} {d : Nat} {M : MD} (hX : Cx X l d M) {pc q : Nat} {L S : List Value} {μ : Mem} {u0 u1 : Value} {x : Nat} (hd : decode M.2.1 pc = .ok (.aload_n 2, 1)) (hq : pc + 1 = q) (k : TT X q (u0 :: u1 :: .ref x :: L) (.ref x :: S) μ) : TT X pc (u0 :: u1 :: .ref x :: L) S μ := by
  obtain ⟨p, l', e, R, s, m, args, below, meth, c, Z, ce, sl, g, M', n0⟩ := X
  obtain ⟨rfl, rfl, rfl, hx, hb, hml, ho, hts, hK, hSS, hg, hfr, hlo, hce, hsl⟩ := hX
  subst hq
  intro H locs ls hP hS hl
  exact lv_aload_n hx hb hd rfl (tl_ld hl (i := 2) (v := .ref x) rfl rfl) (k H locs ls hP hS hl)
theorem tt_as2 {X : XT} {l : Launch} {d : Nat} {M : MD} (hX : Cx X l d M) {pc q : Nat} {L S : List Value} {μ : Mem} {u0 u1 : Value} {w : Value} {x : Nat} (hd : decode M.2.1 pc = .ok (.astore_n 2, 1)) (hq : pc + 1 = q) (hn : 2 < M.2.2.1) (k : TT X q (u0 :: u1 :: .ref x :: L) S μ) : TT X pc (u0 :: u1 :: w :: L) (.ref x :: S) μ := by
  obtain ⟨p, l', e, R, s, m, args, below, meth, c, Z, ce, sl, g, M', n0⟩ := X
  obtain ⟨rfl, rfl, rfl, hx, hb, hml, ho, hts, hK, hSS, hg, hfr, hlo, hce, hsl⟩ := hX
  subst hq
  intro H locs ls hP hS hl
  exact lv_astore_n hx hb hd rfl hl hn rfl (fun ls' hl' => k H locs ls' hP hS (lv_mono hl' (tl_set (L := u0 :: u1 :: w :: L) (i := 2) (v := .ref x))))
theorem tt_inc2 {X : XT} {l : Launch} {d : Nat} {M : MD} (hX : Cx X l d M) {pc q : Nat} {L S : List Value} {μ : Mem} {u0 u1 : Value} {x v : Int32} {n : Int} (hd : decode M.2.1 pc = .ok (.iinc 2 n, 3)) (hq : pc + 3 = q) (hn : 2 < M.2.2.1) (hv : x + Int32.ofInt n = v) (k : TT X q (u0 :: u1 :: .int v :: L) S μ) : TT X pc (u0 :: u1 :: .int x :: L) S μ := by
  obtain ⟨p, l', e, R, s, m, args, below, meth, c, Z, ce, sl, g, M', n0⟩ := X
  obtain ⟨rfl, rfl, rfl, hx, hb, hml, ho, hts, hK, hSS, hg, hfr, hlo, hce, hsl⟩ := hX
  subst hq
  intro H locs ls hP hS hl
  have h9 := tl_mem g (u0 :: u1 :: .int x :: L) 0 2 (.int x) rfl rfl
  obtain ⟨k9, h8⟩ := List.getElem?_of_mem h9
  exact lv_iinc hx hb hd hl h8 hv hn rfl (fun ls' hl' => k H locs ls' hP hS (lv_mono hl' (tl_set (L := u0 :: u1 :: .int x :: L) (i := 2) (v := .int v))))
theorem tt_il3 {X : XT} {l : Launch} {d : Nat} {M : MD} (hX : Cx X l d M) {pc q : Nat} {L S : List Value} {μ : Mem} {u0 u1 u2 : Value} {x : Int32} (hd : decode M.2.1 pc = .ok (.iload_n 3, 1)) (hq : pc + 1 = q) (k : TT X q (u0 :: u1 :: u2 :: .int x :: L) (.int x :: S) μ) : TT X pc (u0 :: u1 :: u2 :: .int x :: L) S μ := by
  obtain ⟨p, l', e, R, s, m, args, below, meth, c, Z, ce, sl, g, M', n0⟩ := X
  obtain ⟨rfl, rfl, rfl, hx, hb, hml, ho, hts, hK, hSS, hg, hfr, hlo, hce, hsl⟩ := hX
  subst hq
  intro H locs ls hP hS hl
  exact lv_iload_n hx hb hd rfl (tl_ld hl (i := 3) (v := .int x) rfl rfl) (k H locs ls hP hS hl)
theorem tt_is3 {X : XT} {l : Launch} {d : Nat} {M : MD} (hX : Cx X l d M) {pc q : Nat} {L S : List Value} {μ : Mem} {u0 u1 u2 : Value} {w : Value} {x : Int32} (hd : decode M.2.1 pc = .ok (.istore_n 3, 1)) (hq : pc + 1 = q) (hn : 3 < M.2.2.1) (k : TT X q (u0 :: u1 :: u2 :: .int x :: L) S μ) : TT X pc (u0 :: u1 :: u2 :: w :: L) (.int x :: S) μ := by
  obtain ⟨p, l', e, R, s, m, args, below, meth, c, Z, ce, sl, g, M', n0⟩ := X
  obtain ⟨rfl, rfl, rfl, hx, hb, hml, ho, hts, hK, hSS, hg, hfr, hlo, hce, hsl⟩ := hX
  subst hq
  intro H locs ls hP hS hl
  exact lv_istore_n hx hb hd rfl hl hn rfl (fun ls' hl' => k H locs ls' hP hS (lv_mono hl' (tl_set (L := u0 :: u1 :: u2 :: w :: L) (i := 3) (v := .int x))))
theorem tt_al3 {X : XT} {l : Launch} {d : Nat} {M : MD} (hX : Cx X l d M) {pc q : Nat} {L S : List Value} {μ : Mem} {u0 u1 u2 : Value} {x : Nat} (hd : decode M.2.1 pc = .ok (.aload_n 3, 1)) (hq : pc + 1 = q) (k : TT X q (u0 :: u1 :: u2 :: .ref x :: L) (.ref x :: S) μ) : TT X pc (u0 :: u1 :: u2 :: .ref x :: L) S μ := by
  obtain ⟨p, l', e, R, s, m, args, below, meth, c, Z, ce, sl, g, M', n0⟩ := X
  obtain ⟨rfl, rfl, rfl, hx, hb, hml, ho, hts, hK, hSS, hg, hfr, hlo, hce, hsl⟩ := hX
  subst hq
  intro H locs ls hP hS hl
  exact lv_aload_n hx hb hd rfl (tl_ld hl (i := 3) (v := .ref x) rfl rfl) (k H locs ls hP hS hl)
theorem tt_as3 {X : XT} {l : Launch} {d : Nat} {M : MD} (hX : Cx X l d M) {pc q : Nat} {L S : List Value} {μ : Mem} {u0 u1 u2 : Value} {w : Value} {x : Nat} (hd : decode M.2.1 pc = .ok (.astore_n 3, 1)) (hq : pc + 1 = q) (hn : 3 < M.2.2.1) (k : TT X q (u0 :: u1 :: u2 :: .ref x :: L) S μ) : TT X pc (u0 :: u1 :: u2 :: w :: L) (.ref x :: S) μ := by
  obtain ⟨p, l', e, R, s, m, args, below, meth, c, Z, ce, sl, g, M', n0⟩ := X
  obtain ⟨rfl, rfl, rfl, hx, hb, hml, ho, hts, hK, hSS, hg, hfr, hlo, hce, hsl⟩ := hX
  subst hq
  intro H locs ls hP hS hl
  exact lv_astore_n hx hb hd rfl hl hn rfl (fun ls' hl' => k H locs ls' hP hS (lv_mono hl' (tl_set (L := u0 :: u1 :: u2 :: w :: L) (i := 3) (v := .ref x))))
theorem tt_inc3 {X : XT} {l : Launch} {d : Nat} {M : MD} (hX : Cx X l d M) {pc q : Nat} {L S : List Value} {μ : Mem} {u0 u1 u2 : Value} {x v : Int32} {n : Int} (hd : decode M.2.1 pc = .ok (.iinc 3 n, 3)) (hq : pc + 3 = q) (hn : 3 < M.2.2.1) (hv : x + Int32.ofInt n = v) (k : TT X q (u0 :: u1 :: u2 :: .int v :: L) S μ) : TT X pc (u0 :: u1 :: u2 :: .int x :: L) S μ := by
  obtain ⟨p, l', e, R, s, m, args, below, meth, c, Z, ce, sl, g, M', n0⟩ := X
  obtain ⟨rfl, rfl, rfl, hx, hb, hml, ho, hts, hK, hSS, hg, hfr, hlo, hce, hsl⟩ := hX
  subst hq
  intro H locs ls hP hS hl
  have h9 := tl_mem g (u0 :: u1 :: u2 :: .int x :: L) 0 3 (.int x) rfl rfl
  obtain ⟨k9, h8⟩ := List.getElem?_of_mem h9
  exact lv_iinc hx hb hd hl h8 hv hn rfl (fun ls' hl' => k H locs ls' hP hS (lv_mono hl' (tl_set (L := u0 :: u1 :: u2 :: .int x :: L) (i := 3) (v := .int v))))
theorem tt_il4 {X : XT} {l : Launch} {d : Nat} {M : MD} (hX : Cx X l d M) {pc q : Nat} {L S : List Value} {μ : Mem} {u0 u1 u2 u3 : Value} {x : Int32} (hd : decode M.2.1 pc = .ok (.iload 4, 2)) (hq : pc + 2 = q) (k : TT X q (u0 :: u1 :: u2 :: u3 :: .int x :: L) (.int x :: S) μ) : TT X pc (u0 :: u1 :: u2 :: u3 :: .int x :: L) S μ := by
  obtain ⟨p, l', e, R, s, m, args, below, meth, c, Z, ce, sl, g, M', n0⟩ := X
  obtain ⟨rfl, rfl, rfl, hx, hb, hml, ho, hts, hK, hSS, hg, hfr, hlo, hce, hsl⟩ := hX
  subst hq
  intro H locs ls hP hS hl
  exact lv_iload hx hb hd (tl_ld hl (i := 4) (v := .int x) rfl rfl) (k H locs ls hP hS hl)
theorem tt_is4 {X : XT} {l : Launch} {d : Nat} {M : MD} (hX : Cx X l d M) {pc q : Nat} {L S : List Value} {μ : Mem} {u0 u1 u2 u3 : Value} {w : Value} {x : Int32} (hd : decode M.2.1 pc = .ok (.istore 4, 2)) (hq : pc + 2 = q) (hn : 4 < M.2.2.1) (k : TT X q (u0 :: u1 :: u2 :: u3 :: .int x :: L) S μ) : TT X pc (u0 :: u1 :: u2 :: u3 :: w :: L) (.int x :: S) μ := by
  obtain ⟨p, l', e, R, s, m, args, below, meth, c, Z, ce, sl, g, M', n0⟩ := X
  obtain ⟨rfl, rfl, rfl, hx, hb, hml, ho, hts, hK, hSS, hg, hfr, hlo, hce, hsl⟩ := hX
  subst hq
  intro H locs ls hP hS hl
  exact lv_istore hx hb hd hl hn rfl (fun ls' hl' => k H locs ls' hP hS (lv_mono hl' (tl_set (L := u0 :: u1 :: u2 :: u3 :: w :: L) (i := 4) (v := .int x))))
theorem tt_al4 {X : XT} {l : Launch} {d : Nat} {M : MD} (hX : Cx X l d M) {pc q : Nat} {L S : List Value} {μ : Mem} {u0 u1 u2 u3 : Value} {x : Nat} (hd : decode M.2.1 pc = .ok (.aload 4, 2)) (hq : pc + 2 = q) (k : TT X q (u0 :: u1 :: u2 :: u3 :: .ref x :: L) (.ref x :: S) μ) : TT X pc (u0 :: u1 :: u2 :: u3 :: .ref x :: L) S μ := by
  obtain ⟨p, l', e, R, s, m, args, below, meth, c, Z, ce, sl, g, M', n0⟩ := X
  obtain ⟨rfl, rfl, rfl, hx, hb, hml, ho, hts, hK, hSS, hg, hfr, hlo, hce, hsl⟩ := hX
  subst hq
  intro H locs ls hP hS hl
  exact lv_aload hx hb hd (tl_ld hl (i := 4) (v := .ref x) rfl rfl) (k H locs ls hP hS hl)
theorem tt_as4 {X : XT} {l : Launch} {d : Nat} {M : MD} (hX : Cx X l d M) {pc q : Nat} {L S : List Value} {μ : Mem} {u0 u1 u2 u3 : Value} {w : Value} {x : Nat} (hd : decode M.2.1 pc = .ok (.astore 4, 2)) (hq : pc + 2 = q) (hn : 4 < M.2.2.1) (k : TT X q (u0 :: u1 :: u2 :: u3 :: .ref x :: L) S μ) : TT X pc (u0 :: u1 :: u2 :: u3 :: w :: L) (.ref x :: S) μ := by
  obtain ⟨p, l', e, R, s, m, args, below, meth, c, Z, ce, sl, g, M', n0⟩ := X
  obtain ⟨rfl, rfl, rfl, hx, hb, hml, ho, hts, hK, hSS, hg, hfr, hlo, hce, hsl⟩ := hX
  subst hq
  intro H locs ls hP hS hl
  exact lv_astore hx hb hd hl hn rfl (fun ls' hl' => k H locs ls' hP hS (lv_mono hl' (tl_set (L := u0 :: u1 :: u2 :: u3 :: w :: L) (i := 4) (v := .ref x))))
theorem tt_inc4 {X : XT} {l : Launch} {d : Nat} {M : MD} (hX : Cx X l d M) {pc q : Nat} {L S : List Value} {μ : Mem} {u0 u1 u2 u3 : Value} {x v : Int32} {n : Int} (hd : decode M.2.1 pc = .ok (.iinc 4 n, 3)) (hq : pc + 3 = q) (hn : 4 < M.2.2.1) (hv : x + Int32.ofInt n = v) (k : TT X q (u0 :: u1 :: u2 :: u3 :: .int v :: L) S μ) : TT X pc (u0 :: u1 :: u2 :: u3 :: .int x :: L) S μ := by
  obtain ⟨p, l', e, R, s, m, args, below, meth, c, Z, ce, sl, g, M', n0⟩ := X
  obtain ⟨rfl, rfl, rfl, hx, hb, hml, ho, hts, hK, hSS, hg, hfr, hlo, hce, hsl⟩ := hX
  subst hq
  intro H locs ls hP hS hl
  have h9 := tl_mem g (u0 :: u1 :: u2 :: u3 :: .int x :: L) 0 4 (.int x) rfl rfl
  obtain ⟨k9, h8⟩ := List.getElem?_of_mem h9
  exact lv_iinc hx hb hd hl h8 hv hn rfl (fun ls' hl' => k H locs ls' hP hS (lv_mono hl' (tl_set (L := u0 :: u1 :: u2 :: u3 :: .int x :: L) (i := 4) (v := .int v))))
theorem tt_il5 {X : XT} {l : Launch} {d : Nat} {M : MD} (hX : Cx X l d M) {pc q : Nat} {L S : List Value} {μ : Mem} {u0 u1 u2 u3 u4 : Value} {x : Int32} (hd : decode M.2.1 pc = .ok (.iload 5, 2)) (hq : pc + 2 = q) (k : TT X q (u0 :: u1 :: u2 :: u3 :: u4 :: .int x :: L) (.int x :: S) μ) : TT X pc (u0 :: u1 :: u2 :: u3 :: u4 :: .int x :: L) S μ := by
  obtain ⟨p, l', e, R, s, m, args, below, meth, c, Z, ce, sl, g, M', n0⟩ := X
  obtain ⟨rfl, rfl, rfl, hx, hb, hml, ho, hts, hK, hSS, hg, hfr, hlo, hce, hsl⟩ := hX
  subst hq
  intro H locs ls hP hS hl
  exact lv_iload hx hb hd (tl_ld hl (i := 5) (v := .int x) rfl rfl) (k H locs ls hP hS hl)
theorem tt_is5 {X : XT} {l : Launch} {d : Nat} {M : MD} (hX : Cx X l d M) {pc q : Nat} {L S : List Value} {μ : Mem} {u0 u1 u2 u3 u4 : Value} {w : Value} {x : Int32} (hd : decode M.2.1 pc = .ok (.istore 5, 2)) (hq : pc + 2 = q) (hn : 5 < M.2.2.1) (k : TT X q (u0 :: u1 :: u2 :: u3 :: u4 :: .int x :: L) S μ) : TT X pc (u0 :: u1 :: u2 :: u3 :: u4 :: w :: L) (.int x :: S) μ := by
  obtain ⟨p, l', e, R, s, m, args, below, meth, c, Z, ce, sl, g, M', n0⟩ := X
  obtain ⟨rfl, rfl, rfl, hx, hb, hml, ho, hts, hK, hSS, hg, hfr, hlo, hce, hsl⟩ := hX
  subst hq
  intro H locs ls hP hS hl
  exact lv_istore hx hb hd hl hn rfl (fun ls' hl' => k H locs ls' hP hS (lv_mono hl' (tl_set (L := u0 :: u1 :: u2 :: u3 :: u4 :: w :: L) (i := 5) (v := .int x))))
theorem tt_al5 {X : XT} {l : Launch} {d : Nat} {M : MD} (hX : Cx X l d M) {pc q : Nat} {L S : List Value} {μ : Mem} {u0 u1 u2 u3 u4 : Value} {x : Nat} (hd : decode M.2.1 pc = .ok (.aload 5, 2)) (hq : pc + 2 = q) (k : TT X q (u0 :: u1 :: u2 :: u3 :: u4 :: .ref x :: L) (.ref x :: S) μ) : TT X pc (u0 :: u1 :: u2 :: u3 :: u4 :: .ref x :: L) S μ := by
  obtain ⟨p, l', e, R, s, m, args, below, meth, c, Z, ce, sl, g, M', n0⟩ := X
  obtain ⟨rfl, rfl, rfl, hx, hb, hml, ho, hts, hK, hSS, hg, hfr, hlo, hce, hsl⟩ := hX
  subst hq
  intro H locs ls hP hS hl
  exact lv_aload hx hb hd (tl_ld hl (i := 5) (v := .ref x) rfl rfl) (k H locs ls hP hS hl)
theorem tt_as5 {X : XT} {l : Launch} {d : Nat} {M : MD} (hX : Cx X l d M) {pc q : Nat} {L S : List Value} {μ : Mem} {u0 u1 u2 u3 u4 : Value} {w : Value} {x : Nat} (hd : decode M.2.1 pc = .ok (.astore 5, 2)) (hq : pc + 2 = q) (hn : 5 < M.2.2.1) (k : TT X q (u0 :: u1 :: u2 :: u3 :: u4 :: .ref x :: L) S μ) : TT X pc (u0 :: u1 :: u2 :: u3 :: u4 :: w :: L) (.ref x :: S) μ := by
  obtain ⟨p, l', e, R, s, m, args, below, meth, c, Z, ce, sl, g, M', n0⟩ := X
  obtain ⟨rfl, rfl, rfl, hx, hb, hml, ho, hts, hK, hSS, hg, hfr, hlo, hce, hsl⟩ := hX
  subst hq
  intro H locs ls hP hS hl
  exact lv_astore hx hb hd hl hn rfl (fun ls' hl' => k H locs ls' hP hS (lv_mono hl' (tl_set (L := u0 :: u1 :: u2 :: u3 :: u4 :: w :: L) (i := 5) (v := .ref x))))
theorem tt_inc5 {X : XT} {l : Launch} {d : Nat} {M : MD} (hX : Cx X l d M) {pc q : Nat} {L S : List Value} {μ : Mem} {u0 u1 u2 u3 u4 : Value} {x v : Int32} {n : Int} (hd : decode M.2.1 pc = .ok (.iinc 5 n, 3)) (hq : pc + 3 = q) (hn : 5 < M.2.2.1) (hv : x + Int32.ofInt n = v) (k : TT X q (u0 :: u1 :: u2 :: u3 :: u4 :: .int v :: L) S μ) : TT X pc (u0 :: u1 :: u2 :: u3 :: u4 :: .int x :: L) S μ := by
  obtain ⟨p, l', e, R, s, m, args, below, meth, c, Z, ce, sl, g, M', n0⟩ := X
  obtain ⟨rfl, rfl, rfl, hx, hb, hml, ho, hts, hK, hSS, hg, hfr, hlo, hce, hsl⟩ := hX
  subst hq
  intro H locs ls hP hS hl
  have h9 := tl_mem g (u0 :: u1 :: u2 :: u3 :: u4 :: .int x :: L) 0 5 (.int x) rfl rfl
  obtain ⟨k9, h8⟩ := List.getElem?_of_mem h9
  exact lv_iinc hx hb hd hl h8 hv hn rfl (fun ls' hl' => k H locs ls' hP hS (lv_mono hl' (tl_set (L := u0 :: u1 :: u2 :: u3 :: u4 :: .int x :: L) (i := 5) (v := .int v))))
theorem tt_il6 {X : XT} {l : Launch} {d : Nat} {M : MD} (hX : Cx X l d M) {pc q : Nat} {L S : List Value} {μ : Mem} {u0 u1 u2 u3 u4 u5 : Value} {x : Int32} (hd : decode M.2.1 pc = .ok (.iload 6, 2)) (hq : pc + 2 = q) (k : TT X q (u0 :: u1 :: u2 :: u3 :: u4 :: u5 :: .int x :: L) (.int x :: S) μ) : TT X pc (u0 :: u1 :: u2 :: u3 :: u4 :: u5 :: .int x :: L) S μ := by
  obtain ⟨p, l', e, R, s, m, args, below, meth, c, Z, ce, sl, g, M', n0⟩ := X
  obtain ⟨rfl, rfl, rfl, hx, hb, hml, ho, hts, hK, hSS, hg, hfr, hlo, hce, hsl⟩ := hX
  subst hq
  intro H locs ls hP hS hl
  exact lv_iload hx hb hd (tl_ld hl (i := 6) (v := .int x) rfl rfl) (k H locs ls hP hS hl)
theorem tt_is6 {X : XT} {l : Launch} {d : Nat} {M : MD} (hX : Cx X l d M) {pc q : Nat} {L S : List Value} {μ : Mem} {u0 u1 u2 u3 u4 u5 : Value} {w : Value} {x : Int32} (hd : decode M.2.1 pc = .ok (.istore 6, 2)) (hq : pc + 2 = q) (hn : 6 < M.2.2.1) (k : TT X q (u0 :: u1 :: u2 :: u3 :: u4 :: u5 :: .int x :: L) S μ) : TT X pc (u0 :: u1 :: u2 :: u3 :: u4 :: u5 :: w :: L) (.int x :: S) μ := by
  obtain ⟨p, l', e, R, s, m, args, below, meth, c, Z, ce, sl, g, M', n0⟩ := X
  obtain ⟨rfl, rfl, rfl, hx, hb, hml, ho, hts, hK, hSS, hg, hfr, hlo, hce, hsl⟩ := hX
  subst hq
  intro H locs ls hP hS hl
  exact lv_istore hx hb hd hl hn rfl (fun ls' hl' => k H locs ls' hP hS (lv_mono hl' (tl_set (L := u0 :: u1 :: u2 :: u3 :: u4 :: u5 :: w :: L) (i := 6) (v := .int x))))
theorem tt_al6 {X : XT} {l : Launch} {d : Nat} {M : MD} (hX : Cx X l d M) {pc q : Nat} {L S : List Value} {μ : Mem} {u0 u1 u2 u3 u4 u5 : Value} {x : Nat} (hd : decode M.2.1 pc = .ok (.aload 6, 2)) (hq : pc + 2 = q) (k : TT X q (u0 :: u1 :: u2 :: u3 :: u4 :: u5 :: .ref x :: L) (.ref x :: S) μ) : TT X pc (u0 :: u1 :: u2 :: u3 :: u4 :: u5 :: .ref x :: L) S μ := by
  obtain ⟨p, l', e, R, s, m, args, below, meth, c, Z, ce, sl, g, M', n0⟩ := X
  obtain ⟨rfl, rfl, rfl, hx, hb, hml, ho, hts, hK, hSS, hg, hfr, hlo, hce, hsl⟩ := hX
  subst hq
  intro H locs ls hP hS hl
  exact lv_aload hx hb hd (tl_ld hl (i := 6) (v := .ref x) rfl rfl) (k H locs ls hP hS hl)
theorem tt_as6 {X : XT} {l : Launch} {d : Nat} {M : MD} (hX : Cx X l d M) {pc q : Nat} {L S : List Value} {μ : Mem} {u0 u1 u2 u3 u4 u5 : Value} {w : Value} {x : Nat} (hd : decode M.2.1 pc = .ok (.astore 6, 2)) (hq : pc + 2 = q) (hn : 6 < M.2.2.1) (k : TT X q (u0 :: u1 :: u2 :: u3 :: u4 :: u5 :: .ref x :: L) S μ) : TT X pc (u0 :: u1 :: u2 :: u3 :: u4 :: u5 :: w :: L) (.ref x :: S) μ := by
  obtain ⟨p, l', e, R, s, m, args, below, meth, c, Z, ce, sl, g, M', n0⟩ := X
  obtain ⟨rfl, rfl, rfl, hx, hb, hml, ho, hts, hK, hSS, hg, hfr, hlo, hce, hsl⟩ := hX
  subst hq
  intro H locs ls hP hS hl
  exact lv_astore hx hb hd hl hn rfl (fun ls' hl' => k H locs ls' hP hS (lv_mono hl' (tl_set (L := u0 :: u1 :: u2 :: u3 :: u4 :: u5 :: w :: L) (i := 6) (v := .ref x))))
theorem tt_inc6 {X : XT} {l : Launch} {d : Nat} {M : MD} (hX : Cx X l d M) {pc q : Nat} {L S : List Value} {μ : Mem} {u0 u1 u2 u3 u4 u5 : Value} {x v : Int32} {n : Int} (hd : decode M.2.1 pc = .ok (.iinc 6 n, 3)) (hq : pc + 3 = q) (hn : 6 < M.2.2.1) (hv : x + Int32.ofInt n = v) (k : TT X q (u0 :: u1 :: u2 :: u3 :: u4 :: u5 :: .int v :: L) S μ) : TT X pc (u0 :: u1 :: u2 :: u3 :: u4 :: u5 :: .int x :: L) S μ := by
  obtain ⟨p, l', e, R, s, m, args, below, meth, c, Z, ce, sl, g, M', n0⟩ := X
  obtain ⟨rfl, rfl, rfl, hx, hb, hml, ho, hts, hK, hSS, hg, hfr, hlo, hce, hsl⟩ := hX
  subst hq
  intro H locs ls hP hS hl
  have h9 := tl_mem g (u0 :: u1 :: u2 :: u3 :: u4 :: u5 :: .int x :: L) 0 6 (.int x) rfl rfl
  obtain ⟨k9, h8⟩ := List.getElem?_of_mem h9
  exact lv_iinc hx hb hd hl h8 hv hn rfl (fun ls' hl' => k H locs ls' hP hS (lv_mono hl' (tl_set (L := u0 :: u1 :: u2 :: u3 :: u4 :: u5 :: .int x :: L) (i := 6) (v := .int v))))
theorem tt_il7 {X : XT} {l : Launch} {d : Nat} {M : MD} (hX : Cx X l d M) {pc q : Nat} {L S : List Value} {μ : Mem} {u0 u1 u2 u3 u4 u5 u6 : Value} {x : Int32} (hd : decode M.2.1 pc = .ok (.iload 7, 2)) (hq : pc + 2 = q) (k : TT X q (u0 :: u1 :: u2 :: u3 :: u4 :: u5 :: u6 :: .int x :: L) (.int x :: S) μ) : TT X pc (u0 :: u1 :: u2 :: u3 :: u4 :: u5 :: u6 :: .int x :: L) S μ := by
  obtain ⟨p, l', e, R, s, m, args, below, meth, c, Z, ce, sl, g, M', n0⟩ := X
  obtain ⟨rfl, rfl, rfl, hx, hb, hml, ho, hts, hK, hSS, hg, hfr, hlo, hce, hsl⟩ := hX
  subst hq
  intro H locs ls hP hS hl
  exact lv_iload hx hb hd (tl_ld hl (i := 7) (v := .int x) rfl rfl) (k H locs ls hP hS hl)
theorem tt_is7 {X : XT} {l : Launch} {d : Nat} {M : MD} (hX : Cx X l d M) {pc q : Nat} {L S : List Value} {μ : Mem} {u0 u1 u2 u3 u4 u5 u6 : Value} {w : Value} {x : Int32} (hd : decode M.2.1 pc = .ok (.istore 7, 2)) (hq : pc + 2 = q) (hn : 7 < M.2.2.1) (k : TT X q (u0 :: u1 :: u2 :: u3 :: u4 :: u5 :: u6 :: .int x :: L) S μ) : TT X pc (u0 :: u1 :: u2 :: u3 :: u4 :: u5 :: u6 :: w :: L) (.int x :: S) μ := by
  obtain ⟨p, l', e, R, s, m, args, below, meth, c, Z, ce, sl, g, M', n0⟩ := X
  obtain ⟨rfl, rfl, rfl, hx, hb, hml, ho, hts, hK, hSS, hg, hfr, hlo, hce, hsl⟩ := hX
  subst hq
  intro H locs ls hP hS hl
  exact lv_istore hx hb hd hl hn rfl (fun ls' hl' => k H locs ls' hP hS (lv_mono hl' (tl_set (L := u0 :: u1 :: u2 :: u3 :: u4 :: u5 :: u6 :: w :: L) (i := 7) (v := .int x))))
theorem tt_al7 {X : XT} {l : Launch} {d : Nat} {M : MD} (hX : Cx X l d M) {pc q : Nat} {L S : List Value} {μ : Mem} {u0 u1 u2 u3 u4 u5 u6 : Value} {x : Nat} (hd : decode M.2.1 pc = .ok (.aload 7, 2)) (hq : pc + 2 = q) (k : TT X q (u0 :: u1 :: u2 :: u3 :: u4 :: u5 :: u6 :: .ref x :: L) (.ref x :: S) μ) : TT X pc (u0 :: u1 :: u2 :: u3 :: u4 :: u5 :: u6 :: .ref x :: L) S μ := by
  obtain ⟨p, l', e, R, s, m, args, below, meth, c, Z, ce, sl, g, M', n0⟩ := X
  obtain ⟨rfl, rfl, rfl, hx, hb, hml, ho, hts, hK, hSS, hg, hfr, hlo, hce, hsl⟩ := hX
  subst hq
  intro H locs ls hP hS hl
  exact lv_aload hx hb hd (tl_ld hl (i := 7) (v := .ref x) rfl rfl) (k H locs ls hP hS hl)
theorem tt_as7 {X : XT} {l : Launch} {d : Nat} {M : MD} (hX : Cx X l d M) {pc q : Nat} {L S : List Value} {μ : Mem} {u0 u1 u2 u3 u4 u5 u6 : Value} {w : Value} {x : Nat} (hd : decode M.2.1 pc = .ok (.astore 7, 2)) (hq : pc + 2 = q) (hn : 7 < M.2.2.1) (k : TT X q (u0 :: u1 :: u2 :: u3 :: u4 :: u5 :: u6 :: .ref x :: L) S μ) : TT X pc (u0 :: u1 :: u2 :: u3 :: u4 :: u5 :: u6 :: w :: L) (.ref x :: S) μ := by
  obtain ⟨p, l', e, R, s, m, args, below, meth, c, Z, ce, sl, g, M', n0⟩ := X
  obtain ⟨rfl, rfl, rfl, hx, hb, hml, ho, hts, hK, hSS, hg, hfr, hlo, hce, hsl⟩ := hX
  subst hq
  intro H locs ls hP hS hl
  exact lv_astore hx hb hd hl hn rfl (fun ls' hl' => k H locs ls' hP hS (lv_mono hl' (tl_set (L := u0 :: u1 :: u2 :: u3 :: u4 :: u5 :: u6 :: w :: L) (i := 7) (v := .ref x))))
theorem tt_inc7 {X : XT} {l : Launch} {d : Nat} {M : MD} (hX : Cx X l d M) {pc q : Nat} {L S : List Value} {μ : Mem} {u0 u1 u2 u3 u4 u5 u6 : Value} {x v : Int32} {n : Int} (hd : decode M.2.1 pc = .ok (.iinc 7 n, 3)) (hq : pc + 3 = q) (hn : 7 < M.2.2.1) (hv : x + Int32.ofInt n = v) (k : TT X q (u0 :: u1 :: u2 :: u3 :: u4 :: u5 :: u6 :: .int v :: L) S μ) : TT X pc (u0 :: u1 :: u2 :: u3 :: u4 :: u5 :: u6 :: .int x :: L) S μ := by
  obtain ⟨p, l', e, R, s, m, args, below, meth, c, Z, ce, sl, g, M', n0⟩ := X
  obtain ⟨rfl, rfl, rfl, hx, hb, hml, ho, hts, hK, hSS, hg, hfr, hlo, hce, hsl⟩ := hX
  subst hq
  intro H locs ls hP hS hl
  have h9 := tl_mem g (u0 :: u1 :: u2 :: u3 :: u4 :: u5 :: u6 :: .int x :: L) 0 7 (.int x) rfl rfl
  obtain ⟨k9, h8⟩ := List.getElem?_of_mem h9
  exact lv_iinc hx hb hd hl h8 hv hn rfl (fun ls' hl' => k H locs ls' hP hS (lv_mono hl' (tl_set (L := u0 :: u1 :: u2 :: u3 :: u4 :: u5 :: u6 :: .int x :: L) (i := 7) (v := .int v))))
theorem tt_il8 {X : XT} {l : Launch} {d : Nat} {M : MD} (hX : Cx X l d M) {pc q : Nat} {L S : List Value} {μ : Mem} {u0 u1 u2 u3 u4 u5 u6 u7 : Value} {x : Int32} (hd : decode M.2.1 pc = .ok (.iload 8, 2)) (hq : pc + 2 = q) (k : TT X q (u0 :: u1 :: u2 :: u3 :: u4 :: u5 :: u6 :: u7 :: .int x :: L) (.int x :: S) μ) : TT X pc (u0 :: u1 :: u2 :: u3 :: u4 :: u5 :: u6 :: u7 :: .int x :: L) S μ := by
  obtain ⟨p, l', e, R, s, m, args, below, meth, c, Z, ce, sl, g, M', n0⟩ := X
  obtain ⟨rfl, rfl, rfl, hx, hb, hml, ho, hts, hK, hSS, hg, hfr, hlo, hce, hsl⟩ := hX
  subst hq
  intro H locs ls hP hS hl
  exact lv_iload hx hb hd (tl_ld hl (i := 8) (v := .int x) rfl rfl) (k H locs ls hP hS hl)
theorem tt_is8 {X : XT} {l : Launch} {d : Nat} {M : MD} (hX : Cx X l d M) {pc q : Nat} {L S : List Value} {μ : Mem} {u0 u1 u2 u3 u4 u5 u6 u7 : Value} {w : Value} {x : Int32} (hd : decode M.2.1 pc = .ok (.istore 8, 2)) (hq : pc + 2 = q) (hn : 8 < M.2.2.1) (k : TT X q (u0 :: u1 :: u2 :: u3 :: u4 :: u5 :: u6 :: u7 :: .int x :: L) S μ) : TT X pc (u0 :: u1 :: u2 :: u3 :: u4 :: u5 :: u6 :: u7 :: w :: L) (.int x :: S) μ := by
  obtain ⟨p, l', e, R, s, m, args, below, meth, c, Z, ce, sl, g, M', n0⟩ := X
  obtain ⟨rfl, rfl, rfl, hx, hb, hml, ho, hts, hK, hSS, hg, hfr, hlo, hce, hsl⟩ := hX
  subst hq
  intro H locs ls hP hS hl
  exact lv_istore hx hb hd hl hn rfl (fun ls' hl' => k H locs ls' hP hS (lv_mono hl' (tl_set (L := u0 :: u1 :: u2 :: u3 :: u4 :: u5 :: u6 :: u7 :: w :: L) (i := 8) (v := .int x))))
theorem tt_al8 {X : XT} {l : Launch} {d : Nat} {M : MD} (hX : Cx X l d M) {pc q : Nat} {L S : List Value} {μ : Mem} {u0 u1 u2 u3 u4 u5 u6 u7 : Value} {x : Nat} (hd : decode M.2.1 pc = .ok (.aload 8, 2)) (hq : pc + 2 = q) (k : TT X q (u0 :: u1 :: u2 :: u3 :: u4 :: u5 :: u6 :: u7 :: .ref x :: L) (.ref x :: S) μ) : TT X pc (u0 :: u1 :: u2 :: u3 :: u4 :: u5 :: u6 :: u7 :: .ref x :: L) S μ := by
  obtain ⟨p, l', e, R, s, m, args, below, meth, c, Z, ce, sl, g, M', n0⟩ := X
  obtain ⟨rfl, rfl, rfl, hx, hb, hml, ho, hts, hK, hSS, hg, hfr, hlo, hce, hsl⟩ := hX
  subst hq
  intro H locs ls hP hS hl
  exact lv_aload hx hb hd (tl_ld hl (i := 8) (v := .ref x) rfl rfl) (k H locs ls hP hS hl)
theorem tt_as8 {X : XT} {l : Launch} {d : Nat} {M : MD} (hX : Cx X l d M) {pc q : Nat} {L S : List Value} {μ : Mem} {u0 u1 u2 u3 u4 u5 u6 u7 : Value} {w : Value} {x : Nat} (hd : decode M.2.1 pc = .ok (.astore 8, 2)) (hq : pc + 2 = q) (hn : 8 < M.2.2.1) (k : TT X q (u0 :: u1 :: u2 :: u3 :: u4 :: u5 :: u6 :: u7 :: .ref x :: L) S μ) : TT X pc (u0 :: u1 :: u2 :: u3 :: u4 :: u5 :: u6 :: u7 :: w :: L) (.ref x :: S) μ := by
  obtain ⟨p, l', e, R, s, m, args, below, meth, c, Z, ce, sl, g, M', n0⟩ := X
  obtain ⟨rfl, rfl, rfl, hx, hb, hml, ho, hts, hK, hSS, hg, hfr, hlo, hce, hsl⟩ := hX
  subst hq
  intro H locs ls hP hS hl
  exact lv_astore hx hb hd hl hn rfl (fun ls' hl' => k H locs ls' hP hS (lv_mono hl' (tl_set (L := u0 :: u1 :: u2 :: u3 :: u4 :: u5 :: u6 :: u7 :: w :: L) (i := 8) (v := .ref x))))
theorem tt_inc8 {X : XT} {l : Launch} {d : Nat} {M : MD} (hX : Cx X l d M) {pc q : Nat} {L S : List Value} {μ : Mem} {u0 u1 u2 u3 u4 u5 u6 u7 : Value} {x v : Int32} {n : Int} (hd : decode M.2.1 pc = .ok (.iinc 8 n, 3)) (hq : pc + 3 = q) (hn : 8 < M.2.2.1) (hv : x + Int32.ofInt n = v) (k : TT X q (u0 :: u1 :: u2 :: u3 :: u4 :: u5 :: u6 :: u7 :: .int v :: L) S μ) : TT X pc (u0 :: u1 :: u2 :: u3 :: u4 :: u5 :: u6 :: u7 :: .int x :: L) S μ := by
  obtain ⟨p, l', e, R, s, m, args, below, meth, c, Z, ce, sl, g, M', n0⟩ := X
  obtain ⟨rfl, rfl, rfl, hx, hb, hml, ho, hts, hK, hSS, hg, hfr, hlo, hce, hsl⟩ := hX
  subst hq
  intro H locs ls hP hS hl
  have h9 := tl_mem g (u0 :: u1 :: u2 :: u3 :: u4 :: u5 :: u6 :: u7 :: .int x :: L) 0 8 (.int x) rfl rfl
  obtain ⟨k9, h8⟩ := List.getElem?_of_mem h9
  exact lv_iinc hx hb hd hl h8 hv hn rfl (fun ls' hl' => k H locs ls' hP hS (lv_mono hl' (tl_set (L := u0 :: u1 :: u2 :: u3 :: u4 :: u5 :: u6 :: u7 :: .int x :: L) (i := 8) (v := .int v))))
theorem tt_il9 {X : XT} {l : Launch} {d : Nat} {M : MD} (hX : Cx X l d M) {pc q : Nat} {L S : List Value} {μ : Mem} {u0 u1 u2 u3 u4 u5 u6 u7 u8 : Value} {x : Int32} (hd : decode M.2.1 pc = .ok (.iload 9, 2)) (hq : pc + 2 = q) (k : TT X q (u0 :: u1 :: u2 :: u3 :: u4 :: u5 :: u6 :: u7 :: u8 :: .int x :: L) (.int x :: S) μ) : TT X pc (u0 :: u1 :: u2 :: u3 :: u4 :: u5 :: u6 :: u7 :: u8 :: .int x :: L) S μ := by
  obtain ⟨p, l', e, R, s, m, args, below, meth, c, Z, ce, sl, g, M', n0⟩ := X
  obtain ⟨rfl, rfl, rfl, hx, hb, hml, ho, hts, hK, hSS, hg, hfr, hlo, hce, hsl⟩ := hX
  subst hq
  intro H locs ls hP hS hl
  exact lv_iload hx hb hd (tl_ld hl (i := 9) (v := .int x) rfl rfl) (k H locs ls hP hS hl)
theorem tt_is9 {X : XT} {l : Launch} {d : Nat} {M : MD} (hX : Cx X l d M) {pc q : Nat} {L S : List Value} {μ : Mem} {u0 u1 u2 u3 u4 u5 u6 u7 u8 : Value} {w : Value} {x : Int32} (hd : decode M.2.1 pc = .ok (.istore 9, 2)) (hq : pc + 2 = q) (hn : 9 < M.2.2.1) (k : TT X q (u0 :: u1 :: u2 :: u3 :: u4 :: u5 :: u6 :: u7 :: u8 :: .int x :: L) S μ) : TT X pc (u0 :: u1 :: u2 :: u3 :: u4 :: u5 :: u6 :: u7 :: u8 :: w :: L) (.int x :: S) μ := by
  obtain ⟨p, l', e, R, s, m, args, below, meth, c, Z, ce, sl, g, M', n0⟩ := X
  obtain ⟨rfl, rfl, rfl, hx, hb, hml, ho, hts, hK, hSS, hg, hfr, hlo, hce, hsl⟩ := hX
  subst hq
  intro H locs ls hP hS hl
  exact lv_istore hx hb hd hl hn rfl (fun ls' hl' => k H locs ls' hP hS (lv_mono hl' (tl_set (L := u0 :: u1 :: u2 :: u3 :: u4 :: u5 :: u6 :: u7 :: u8 :: w :: L) (i := 9) (v := .int x))))
theorem tt_al9 {X : XT} {l : Launch} {d : Nat} {M : MD} (hX : Cx X l d M) {pc q : Nat} {L S : List Value} {μ : Mem} {u0 u1 u2 u3 u4 u5 u6 u7 u8 : Value} {x : Nat} (hd : decode M.2.1 pc = .ok (.aload 9, 2)) (hq : pc + 2 = q) (k : TT X q (u0 :: u1 :: u2 :: u3 :: u4 :: u5 :: u6 :: u7 :: u8 :: .ref x :: L) (.ref x :: S) μ) : TT X pc (u0 :: u1 :: u2 :: u3 :: u4 :: u5 :: u6 :: u7 :: u8 :: .ref x :: L) S μ := by
  obtain ⟨p, l', e, R, s, m, args, below, meth, c, Z, ce, sl, g, M', n0⟩ := X
  obtain ⟨rfl, rfl, rfl, hx, hb, hml, ho, hts, hK, hSS, hg, hfr, hlo, hce, hsl⟩ := hX
  subst hq
  intro H locs ls hP hS hl
  exact lv_aload hx hb hd (tl_ld hl (i := 9) (v := .ref x) rfl rfl) (k H locs ls hP hS hl)
theorem tt_as9 {X : XT} {l : Launch} {d : Nat} {M : MD} (hX : Cx X l d M) {pc q : Nat} {L S : List Value} {μ : Mem} {u0 u1 u2 u3 u4 u5 u6 u7 u8 : Value} {w : Value} {x : Nat} (hd : decode M.2.1 pc = .ok (.astore 9, 2)) (hq : pc + 2 = q) (hn : 9 < M.2.2.1) (k : TT X q (u0 :: u1 :: u2 :: u3 :: u4 :: u5 :: u6 :: u7 :: u8 :: .ref x :: L) S μ) : TT X pc (u0 :: u1 :: u2 :: u3 :: u4 :: u5 :: u6 :: u7 :: u8 :: w :: L) (.ref x :: S) μ := by
  obtain ⟨p, l', e, R, s, m, args, below, meth, c, Z, ce, sl, g, M', n0⟩ := X
  obtain ⟨rfl, rfl, rfl, hx, hb, hml, ho, hts, hK, hSS, hg, hfr, hlo, hce, hsl⟩ := hX
  subst hq
  intro H locs ls hP hS hl
  exact lv_astore hx hb hd hl hn rfl (fun ls' hl' => k H locs ls' hP hS (lv_mono hl' (tl_set (L := u0 :: u1 :: u2 :: u3 :: u4 :: u5 :: u6 :: u7 :: u8 :: w :: L) (i := 9) (v := .ref x))))
theorem tt_inc9 {X : XT} {l : Launch} {d : Nat} {M : MD} (hX : Cx X l d M) {pc q : Nat} {L S : List Value} {μ : Mem} {u0 u1 u2 u3 u4 u5 u6 u7 u8 : Value} {x v : Int32} {n : Int} (hd : decode M.2.1 pc = .ok (.iinc 9 n, 3)) (hq : pc + 3 = q) (hn : 9 < M.2.2.1) (hv : x + Int32.ofInt n = v) (k : TT X q (u0 :: u1 :: u2 :: u3 :: u4 :: u5 :: u6 :: u7 :: u8 :: .int v :: L) S μ) : TT X pc (u0 :: u1 :: u2 :: u3 :: u4 :: u5 :: u6 :: u7 :: u8 :: .int x :: L) S μ := by
  obtain ⟨p, l', e, R, s, m, args, below, meth, c, Z, ce, sl, g, M', n0⟩ := X
  obtain ⟨rfl, rfl, rfl, hx, hb, hml, ho, hts, hK, hSS, hg, hfr, hlo, hce, hsl⟩ := hX
  subst hq
  intro H locs ls hP hS hl
  have h9 := tl_mem g (u0 :: u1 :: u2 :: u3 :: u4 :: u5 :: u6 :: u7 :: u8 :: .int x :: L) 0 9 (.int x) rfl rfl
  obtain ⟨k9, h8⟩ := List.getElem?_of_mem h9
  exact lv_iinc hx hb hd hl h8 hv hn rfl (fun ls' hl' => k H locs ls' hP hS (lv_mono hl' (tl_set (L := u0 :: u1 :: u2 :: u3 :: u4 :: u5 :: u6 :: u7 :: u8 :: .int x :: L) (i := 9) (v := .int v))))
theorem tt_ifeq {X : XT} {l : Launch} {d : Nat} {M : MD} (hX : Cx X l d M) {pc q : Nat} {L S : List Value} {μ : Mem} {x : Int32} {off : Int} {t : Nat} (hd : decode M.2.1 pc = .ok (.ifCond .eq off, 3)) (hq : pc + 3 = q) (ht : (pc : Int) + off = (t : Int)) (kt : x = 0 → TT X t L S μ) (kf : ¬ (x = 0) → TT X q L S μ) : TT X pc L (.int x :: S) μ := by
  obtain ⟨p, l', e, R, s, m, args, below, meth, c, Z, ce, sl, g, M', n0⟩ := X
  obtain ⟨rfl, rfl, rfl, hx, hb, hml, ho, hts, hK, hSS, hg, hfr, hlo, hce, hsl⟩ := hX
  subst hq
  intro H locs ls hP hS hl
  exact lv_if_eq hx hb hd ht (fun h => kt h H locs ls hP hS hl) (fun h => kf h H locs ls hP hS hl)
theorem tt_ifne {X : XT} {l : Launch} {d : Nat} {M : MD} (hX : Cx X l d M) {pc q : Nat} {L S : List Value} {μ : Mem} {x : Int32} {off : Int} {t : Nat} (hd : decode M.2.1 pc = .ok (.ifCond .ne off, 3)) (hq : pc + 3 = q) (ht : (pc : Int) + off = (t : Int)) (kt : ¬ x = 0 → TT X t L S μ) (kf : x = 0 → TT X q L S μ) : TT X pc L (.int x :: S) μ := by
  obtain ⟨p, l', e, R, s, m, args, below, meth, c, Z, ce, sl, g, M', n0⟩ := X
  obtain ⟨rfl, rfl, rfl, hx, hb, hml, ho, hts, hK, hSS, hg, hfr, hlo, hce, hsl⟩ := hX
  subst hq
  intro H locs ls hP hS hl
  exact lv_if_ne hx hb hd ht (fun h => kt h H locs ls hP hS hl) (fun h => kf h H locs ls hP hS hl)
theorem tt_iflt {X : XT} {l : Launch} {d : Nat} {M : MD} (hX : Cx X l d M) {pc q : Nat} {L S : List Value} {μ : Mem} {x : Int32} {off : Int} {t : Nat} (hd : decode M.2.1 pc = .ok (.ifCond .lt off, 3)) (hq : pc + 3 = q) (ht : (pc : Int) + off = (t : Int)) (kt : x < 0 → TT X t L S μ) (kf : ¬ (x < 0) → TT X q L S μ) : TT X pc L (.int x :: S) μ := by
  obtain ⟨p, l', e, R, s, m, args, below, meth, c, Z, ce, sl, g, M', n0⟩ := X
  obtain ⟨rfl, rfl, rfl, hx, hb, hml, ho, hts, hK, hSS, hg, hfr, hlo, hce, hsl⟩ := hX
  subst hq
  intro H locs ls hP hS hl
  exact lv_if_lt hx hb hd ht (fun h => kt h H locs ls hP hS hl) (fun h => kf h H locs ls hP hS hl)
theorem tt_ifge {X : XT} {l : Launch} {d : Nat} {M : MD} (hX : Cx X l d M) {pc q : Nat} {L S : List Value} {μ : Mem} {x : Int32} {off : Int} {t : Nat} (hd : decode M.2.1 pc = .ok (.ifCond .ge off, 3)) (hq : pc + 3 = q) (ht : (pc : Int) + off = (t : Int)) (kt : 0 ≤ x → TT X t L S μ) (kf : ¬ (0 ≤ x) → TT X q L S μ) : TT X pc L (.int x :: S) μ := by
  obtain ⟨p, l', e, R, s, m, args, below, meth, c, Z, ce, sl, g, M', n0⟩ := X
  obtain ⟨rfl, rfl, rfl, hx, hb, hml, ho, hts, hK, hSS, hg, hfr, hlo, hce, hsl⟩ := hX
  subst hq
  intro H locs ls hP hS hl
  exact lv_if_ge hx hb hd ht (fun h => kt h H locs ls hP hS hl) (fun h => kf h H locs ls hP hS hl)
theorem tt_ifgt {X : XT} {l : Launch} {d : Nat} {M : MD} (hX : Cx X l d M) {pc q : Nat} {L S : List Value} {μ : Mem} {x : Int32} {off : Int} {t : Nat} (hd : decode M.2.1 pc = .ok (.ifCond .gt off, 3)) (hq : pc + 3 = q) (ht : (pc : Int) + off = (t : Int)) (kt : 0 < x → TT X t L S μ) (kf : ¬ (0 < x) → TT X q L S μ) : TT X pc L (.int x :: S) μ := by
  obtain ⟨p, l', e, R, s, m, args, below, meth, c, Z, ce, sl, g, M', n0⟩ := X
  obtain ⟨rfl, rfl, rfl, hx, hb, hml, ho, hts, hK, hSS, hg, hfr, hlo, hce, hsl⟩ := hX
  subst hq
  intro H locs ls hP hS hl
  exact lv_if_gt hx hb hd ht (fun h => kt h H locs ls hP hS hl) (fun h => kf h H locs ls hP hS hl)
theorem tt_ifle {X : XT} {l : Launch} {d : Nat} {M : MD} (hX : Cx X l d M) {pc q : Nat} {L S : List Value} {μ : Mem} {x : Int32} {off : Int} {t : Nat} (hd : decode M.2.1 pc = .ok (.ifCond .le off, 3)) (hq : pc + 3 = q) (ht : (pc : Int) + off = (t : Int)) (kt : x ≤ 0 → TT X t L S μ) (kf : ¬ (x ≤ 0) → TT X q L S μ) : TT X pc L (.int x :: S) μ := by
  obtain ⟨p, l', e, R, s, m, args, below, meth, c, Z, ce, sl, g, M', n0⟩ := X
  obtain ⟨rfl, rfl, rfl, hx, hb, hml, ho, hts, hK, hSS, hg, hfr, hlo, hce, hsl⟩ := hX
  subst hq
  intro H locs ls hP hS hl
  exact lv_if_le hx hb hd ht (fun h => kt h H locs ls hP hS hl) (fun h => kf h H locs ls hP hS hl)
theorem tt_iceq {X : XT} {l : Launch} {d : Nat} {M : MD} (hX : Cx X l d M) {pc q : Nat} {L S : List Value} {μ : Mem} {x y : Int32} {off : Int} {t : Nat} (hd : decode M.2.1 pc = .ok (.if_icmp .eq off, 3)) (hq : pc + 3 = q) (ht : (pc : Int) + off = (t : Int)) (kt : x = y → TT X t L S μ) (kf : ¬ (x = y) → TT X q L S μ) : TT X pc L (.int y :: .int x :: S) μ := by
  obtain ⟨p, l', e, R, s, m, args, below, meth, c, Z, ce, sl, g, M', n0⟩ := X
  obtain ⟨rfl, rfl, rfl, hx, hb, hml, ho, hts, hK, hSS, hg, hfr, hlo, hce, hsl⟩ := hX
  subst hq
  intro H locs ls hP hS hl
  exact lv_icmp_eq hx hb hd ht (fun h => kt h H locs ls hP hS hl) (fun h => kf h H locs ls hP hS hl)
theorem tt_icne {X : XT} {l : Launch} {d : Nat} {M : MD} (hX : Cx X l d M) {pc q : Nat} {L S : List Value} {μ : Mem} {x y : Int32} {off : Int} {t : Nat} (hd : decode M.2.1 pc = .ok (.if_icmp .ne off, 3)) (hq : pc + 3 = q) (ht : (pc : Int) + off = (t : Int)) (kt : ¬ x = y → TT X t L S μ) (kf : x = y → TT X q L S μ) : TT X pc L (.int y :: .int x :: S) μ := by
  obtain ⟨p, l', e, R, s, m, args, below, meth, c, Z, ce, sl, g, M', n0⟩ := X
  obtain ⟨rfl, rfl, rfl, hx, hb, hml, ho, hts, hK, hSS, hg, hfr, hlo, hce, hsl⟩ := hX
  subst hq
  intro H locs ls hP hS hl
  exact lv_icmp_ne hx hb hd ht (fun h => kt h H locs ls hP hS hl) (fun h => kf h H locs ls hP hS hl)
theorem tt_iclt {X : XT} {l : Launch} {d : Nat} {M : MD} (hX : Cx X l d M) {pc q : Nat} {L S : List Value} {μ : Mem} {x y : Int32} {off : Int} {t : Nat} (hd : decode M.2.1 pc = .ok (.if_icmp .lt off, 3)) (hq : pc + 3 = q) (ht : (pc : Int) + off = (t : Int)) (kt : x < y → TT X t L S μ) (kf : ¬ (x < y) → TT X q L S μ) : TT X pc L (.int y :: .int x :: S) μ := by
  obtain ⟨p, l', e, R, s, m, args, below, meth, c, Z, ce, sl, g, M', n0⟩ := X
  obtain ⟨rfl, rfl, rfl, hx, hb, hml, ho, hts, hK, hSS, hg, hfr, hlo, hce, hsl⟩ := hX
  subst hq
  intro H locs ls hP hS hl
  exact lv_icmp_lt hx hb hd ht (fun h => kt h H locs ls hP hS hl) (fun h => kf h H locs ls hP hS hl)
theorem tt_icge {X : XT} {l : Launch} {d : Nat} {M : MD} (hX : Cx X l d M) {pc q : Nat} {L S : List Value} {μ : Mem} {x y : Int32} {off : Int} {t : Nat} (hd : decode M.2.1 pc = .ok (.if_icmp .ge off, 3)) (hq : pc + 3 = q) (ht : (pc : Int) + off = (t : Int)) (kt : y ≤ x → TT X t L S μ) (kf : ¬ (y ≤ x) → TT X q L S μ) : TT X pc L (.int y :: .int x :: S) μ := by
  obtain ⟨p, l', e, R, s, m, args, below, meth, c, Z, ce, sl, g, M', n0⟩ := X
  obtain ⟨rfl, rfl, rfl, hx, hb, hml, ho, hts, hK, hSS, hg, hfr, hlo, hce, hsl⟩ := hX
  subst hq
  intro H locs ls hP hS hl
  exact lv_icmp_ge hx hb hd ht (fun h => kt h H locs ls hP hS hl) (fun h => kf h H locs ls hP hS hl)
theorem tt_icgt {X : XT} {l : Launch} {d : Nat} {M : MD} (hX : Cx X l d M) {pc q : Nat} {L S : List Value} {μ : Mem} {x y : Int32} {off : Int} {t : Nat} (hd : decode M.2.1 pc = .ok (.if_icmp .gt off, 3)) (hq : pc + 3 = q) (ht : (pc : Int) + off = (t : Int)) (kt : y < x → TT X t L S μ) (kf : ¬ (y < x) → TT X q L S μ) : TT X pc L (.int y :: .int x :: S) μ := by
  obtain ⟨p, l', e, R, s, m, args, below, meth, c, Z, ce, sl, g, M', n0⟩ := X
  obtain ⟨rfl, rfl, rfl, hx, hb, hml, ho, hts, hK, hSS, hg, hfr, hlo, hce, hsl⟩ := hX
  subst hq
  intro H locs ls hP hS hl
  exact lv_icmp_gt hx hb hd ht (fun h => kt h H locs ls hP hS hl) (fun h => kf h H locs ls hP hS hl)
theorem tt_icle {X : XT} {l : Launch} {d : Nat} {M : MD} (hX : Cx X l d M) {pc q : Nat} {L S : List Value} {μ : Mem} {x y : Int32} {off : Int} {t : Nat} (hd : decode M.2.1 pc = .ok (.if_icmp .le off, 3)) (hq : pc + 3 = q) (ht : (pc : Int) + off = (t : Int)) (kt : x ≤ y → TT X t L S μ) (kf : ¬ (x ≤ y) → TT X q L S μ) : TT X pc L (.int y :: .int x :: S) μ := by
  obtain ⟨p, l', e, R, s, m, args, below, meth, c, Z, ce, sl, g, M', n0⟩ := X
  obtain ⟨rfl, rfl, rfl, hx, hb, hml, ho, hts, hK, hSS, hg, hfr, hlo, hce, hsl⟩ := hX
  subst hq
  intro H locs ls hP hS hl
  exact lv_icmp_le hx hb hd ht (fun h => kt h H locs ls hP hS hl) (fun h => kf h H locs ls hP hS hl)
theorem tt_goto {X : XT} {l : Launch} {d : Nat} {M : MD} (hX : Cx X l d M) {pc t : Nat} {L S : List Value} {μ : Mem} {off : Int} (hd : decode M.2.1 pc = .ok (.goto off, 3)) (ht : (pc : Int) + off = (t : Int)) (k : TT X t L S μ) : TT X pc L S μ := by
  obtain ⟨p, l', e, R, s, m, args, below, meth, c, Z, ce, sl, g, M', n0⟩ := X
  obtain ⟨rfl, rfl, rfl, hx, hb, hml, ho, hts, hK, hSS, hg, hfr, hlo, hce, hsl⟩ := hX
  intro H locs ls hP hS hl
  exact lv_goto hx hb hd ht (k H locs ls hP hS hl)
theorem tt_ifnull {X : XT} {l : Launch} {d : Nat} {M : MD} (hX : Cx X l d M) {pc q : Nat} {L S : List Value} {μ : Mem} {x : Nat} {off : Int} (hd : decode M.2.1 pc = .ok (.ifnull off, 3)) (hq : pc + 3 = q) (k : TT X q L S μ) : TT X pc L (.ref x :: S) μ := by
  obtain ⟨p, l', e, R, s, m, args, below, meth, c, Z, ce, sl, g, M', n0⟩ := X
  obtain ⟨rfl, rfl, rfl, hx, hb, hml, ho, hts, hK, hSS, hg, hfr, hlo, hce, hsl⟩ := hX
  subst hq
  intro H locs ls hP hS hl
  exact lv_ifnull hx hb hd (k H locs ls hP hS hl)
theorem tt_ifnonnull {X : XT} {l : Launch} {d : Nat} {M : MD} (hX : Cx X l d M) {pc t : Nat} {L S : List Value} {μ : Mem} {x : Nat} {off : Int} (hd : decode M.2.1 pc = .ok (.ifnonnull off, 3)) (ht : (pc : Int) + off = (t : Int)) (k : TT X t L S μ) : TT X pc L (.ref x :: S) μ := by
  obtain ⟨p, l', e, R, s, m, args, below, meth, c, Z, ce, sl, g, M', n0⟩ := X
  obtain ⟨rfl, rfl, rfl, hx, hb, hml, ho, hts, hK, hSS, hg, hfr, hlo, hce, hsl⟩ := hX
  intro H locs ls hP hS hl
  exact lv_ifnonnull hx hb hd ht (k H locs ls hP hS hl)
theorem tt_ifnullN {X : XT} {l : Launch} {d : Nat} {M : MD} (hX : Cx X l d M) {pc t : Nat} {L S : List Value} {μ : Mem} {off : Int} (hd : decode M.2.1 pc = .ok (.ifnull off, 3)) (ht : (pc : Int) + off = (t : Int)) (k : TT X t L S μ) : TT X pc L (.null :: S) μ := by
  obtain ⟨p, l', e, R, s, m, args, below, meth, c, Z, ce, sl, g, M', n0⟩ := X
  obtain ⟨rfl, rfl, rfl, hx, hb, hml, ho, hts, hK, hSS, hg, hfr, hlo, hce, hsl⟩ := hX
  intro H locs ls hP hS hl
  exact lv_ifnullN hx hb hd ht (k H locs ls hP hS hl)
theorem tt_ifnonnullN {X : XT} {l : Launch} {d : Nat} {M : MD} (hX : Cx X l d M) {pc q : Nat} {L S : List Value} {μ : Mem} {off : Int} (hd : decode M.2.1 pc = .ok (.ifnonnull off, 3)) (hq : pc + 3 = q) (k : TT X q L S μ) : TT X pc L (.null :: S) μ := by
  obtain ⟨p, l', e, R, s, m, args, below, meth, c, Z, ce, sl, g, M', n0⟩ := X
  obtain ⟨rfl, rfl, rfl, hx, hb, hml, ho, hts, hK, hSS, hg, hfr, hlo, hce, hsl⟩ := hX
  subst hq
  intro H locs ls hP hS hl
  exact lv_ifnonnullN hx hb hd (k H locs ls hP hS hl)
theorem tt_tswI {X : XT} {l : Launch} {d : Nat} {M : MD} (hX : Cx X l d M) {pc t : Nat} {L S : List Value} {μ : Mem} {dflt lo hi : Int} {offs : Array Int} {len : Nat} {x : Int32} {off : Int} (hd : decode M.2.1 pc = .ok (.tableswitch dflt lo hi offs, len)) (h1 : ¬ x.toInt < lo) (h2 : ¬ hi < x.toInt) (ho : offs[(x.toInt - lo).toNat]? = some off) (ht : (pc : Int) + off = (t : Int)) (k : TT X t L S μ) : TT X pc L (.int x :: S) μ := by
  obtain ⟨p, l', e, R, s, m, args, below, meth, c, Z, ce, sl, g, M', n0⟩ := X
  obtain ⟨rfl, rfl, rfl, hx, hb, hml, hoo, hts, hK, hSS, hg, hfr, hlo, hce, hsl⟩ := hX
  intro H locs ls hP hS hl
  exact lv_tableIn hx hb hd h1 h2 ho ht (k H locs ls hP hS hl)
theorem tt_tswO {X : XT} {l : Launch} {d : Nat} {M : MD} (hX : Cx X l d M) {pc t : Nat} {L S : List Value} {μ : Mem} {dflt lo hi : Int} {offs : Array Int} {len : Nat} {x : Int32} (hd : decode M.2.1 pc = .ok (.tableswitch dflt lo hi offs, len)) (h : x.toInt < lo ∨ hi < x.toInt) (ht : (pc : Int) + dflt = (t : Int)) (k : TT X t L S μ) : TT X pc L (.int x :: S) μ := by
  obtain ⟨p, l', e, R, s, m, args, below, meth, c, Z, ce, sl, g, M', n0⟩ := X
  obtain ⟨rfl, rfl, rfl, hx, hb, hml, ho, hts, hK, hSS, hg, hfr, hlo, hce, hsl⟩ := hX
  intro H locs ls hP hS hl
  exact lv_tableOut hx hb hd h ht (k H locs ls hP hS hl)
