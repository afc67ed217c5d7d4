/-! FIELDS, ARRAYS, CALLS -/
def HI (a ci k : Nat) : Prop := a < 112 ∧ ∃ fs, ff_sh a = .inl (ci, fs) ∧ ∃ z, fs[k]? = some (0, z)
def HR (a ci k r : Nat) : Prop := a < 112 ∧ ∃ fs, ff_sh a = .inl (ci, fs) ∧ fs[k]? = some (1, r)
def HD (a ci k : Nat) : Prop := a < 112 ∧ ∃ fs, ff_sh a = .inl (ci, fs) ∧ ∃ z, fs[k]? = some (2, z)
def HO (a ci : Nat) : Prop := a < 112 ∧ ∃ fs, ff_sh a = .inl (ci, fs)
def HA (a t n : Nat) : Prop := a < 112 ∧ ff_sh a = .inr (t, n, none) ∧ n < 2 ^ 31
def HQ (a t n : Nat) (r : Nat → Nat) : Prop := a < 112 ∧ ff_sh a = .inr (t, n, some r) ∧ n < 2 ^ 31
theorem HI.o {a ci k : Nat} (h : HI a ci k) : HO a ci := ⟨h.1, h.2.choose, h.2.choose_spec.1⟩
theorem HR.o {a ci k r : Nat} (h : HR a ci k r) : HO a ci := ⟨h.1, h.2.choose, h.2.choose_spec.1⟩
/-- a field's link: of class 'own', entry 'idx': field k of class ci -/
def FLK (own : String) (idx ci k : Nat) : Prop := ∃ (C : String) (T : u_T) (N : Nat), vwCl[ci]? = some (C, T, N) ∧ k < N ∧ (∀ w ∈ u_ws C T N, w ∈ wsL_law) ∧ ((Cond.fieldLink own idx (T k).1 (T k).2.1 (T k).2.2.1) ∈ wsL_law ∨ (Cond.fieldLinkNest own idx (T k).1 (T k).2.1 (T k).2.2.1 "FaceFlips") ∈ nestL)
/-- a field's link for writing: its type -/
def FLP (own : String) (idx ci k : Nat) (ty : FieldType) : Prop := ∃ (C : String) (T : u_T) (N : Nat), vwCl[ci]? = some (C, T, N) ∧ k < N ∧ (∀ w ∈ u_ws C T N, w ∈ wsL_law) ∧ ((Cond.fieldLink own idx (T k).1 (T k).2.1 (T k).2.2.1) ∈ wsL_law ∨ (Cond.fieldLinkNest own idx (T k).1 (T k).2.1 (T k).2.2.1 "FaceFlips") ∈ nestL) ∧ (∃ ty0 : Nat → FieldType, ∀ k, k < N → parseFieldDescriptor (T k).2.2.1 = some (ty0 k)) ∧ (∀ a, a < N → ∀ b, b < N → a ≠ b → (T a).2.1 ≠ (T b).2.1) ∧ (T k).2.2.2 = false ∧ parseFieldDescriptor (T k).2.2.1 = some ty
theorem fvalI {g : Geo} {f : Nat → Int32} {k z : Nat} : fval g f k (0, z) = .int (f k) := rfl
theorem fvalR {g : Geo} {f : Nat → Int32} {k z : Nat} : fval g f k (1, z) = .ref (g.2.2.1 z) := rfl
theorem fvalD {g : Geo} {f : Nat → Int32} {k z r : Nat} (hf : f k = nI r) (hr : r < 2 ^ 31) : fval g f k (2, z) = .ref (g.2.2.1 r) := by
  show (if f k < 0 then Value.null else .ref (g.2.2.1 (f k).toNatClampNeg)) = _
  rw [hf, if_neg (nI_pos hr), nI_clamp hr]
theorem nest_use {w : Cond} {s : State} {args : Array Value} (hN : NK s) (h : w ∈ nestL) (hw : w.onTables = true) : w.before args s = true := va_Nw.use hw (hN w h)
section GP
variable {X : XT} {l : Launch} {d : Nat} {M : MD}
theorem tt_getV (hX : Cx X l d M) {pc q : Nat} {L S : List Value} {μ : Mem} {idx ci k a : Nat} (hF : FLK M.2.2.2.2 idx ci k) {fs : List (Nat × Nat)} (ha : a < 112) (hs : ff_sh a = .inl (ci, fs)) {dd : Nat × Nat} (hk : fs[k]? = some dd) {v : Value} (hv : ∀ g : Geo, fval g (μ a) k dd = tv g v) (hd : decode M.2.1 pc = .ok (.getfield idx, 3)) (hq : pc + 3 = q) (kk : TT X q L (v :: S) μ) : TT X pc L (.ref a :: S) μ := by
  obtain ⟨p, l', e, R, s, m, args, below, meth, c, Z, ce, sl, g, M', n0⟩ := X
  obtain ⟨rfl, rfl, rfl, hx, hb, hml, ho, hts, hK, hSS, hg, hfr, hlo, hce, hsl⟩ := hX
  subst hq
  intro H locs ls hP hS hl
  obtain ⟨C, T, N, h1, h2, h3, h4⟩ := hF
  have hw : (wls g μ)[a]? = some (g.2.2.1 a, .inr (ci, fs.mapIdx (fun k d => fval g (μ a) k d))) := by
    rw [wls_at g μ ha, hs]
    rfl
  have hf : (fs.mapIdx (fun k d => fval g (μ a) k d))[k]? = some (tv g v) := by
    rw [List.getElem?_mapIdx, hk, ← hv g]
    rfl
  rcases h4 with h4 | h4
  · exact va_get (D := gD g) (ci := ci) (ref := (T k).1) hx hb hts h3 ho hK.1 hP a hw h1 k h2 (hts _ h4) (fun _ z => z) hf hd (kk H locs ls hP hS hl)
  · exact va_getN (D := gD g) (ci := ci) (ref := (T k).1) hx hb hts h3 ho hK.1 hP a hw h1 k h2 (nest_use hK.2.1 h4 rfl) (fun _ z => z) hf hd (kk H locs ls hP hS hl)
theorem tt_getI (hX : Cx X l d M) {pc q : Nat} {L S : List Value} {μ : Mem} {idx ci k a : Nat} (hF : FLK M.2.2.2.2 idx ci k) (hs : HI a ci k) (hd : decode M.2.1 pc = .ok (.getfield idx, 3)) (hq : pc + 3 = q) (kk : TT X q L (.int (μ a k) :: S) μ) : TT X pc L (.ref a :: S) μ := by
  obtain ⟨ha, fs, h1, z, h2⟩ := hs
  exact tt_getV hX hF ha h1 h2 (fun g => rfl) hd hq kk
theorem tt_getR (hX : Cx X l d M) {pc q : Nat} {L S : List Value} {μ : Mem} {idx ci k a r : Nat} (hF : FLK M.2.2.2.2 idx ci k) (hs : HR a ci k r) (hd : decode M.2.1 pc = .ok (.getfield idx, 3)) (hq : pc + 3 = q) (kk : TT X q L (.ref r :: S) μ) : TT X pc L (.ref a :: S) μ := by
  obtain ⟨ha, fs, h1, h2⟩ := hs
  exact tt_getV hX hF ha h1 h2 (fun g => rfl) hd hq kk
theorem tt_getD (hX : Cx X l d M) {pc q : Nat} {L S : List Value} {μ : Mem} {idx ci k a r : Nat} (hF : FLK M.2.2.2.2 idx ci k) (hs : HD a ci k) (hf : μ a k = nI r) (hr : r < 2 ^ 31) (hd : decode M.2.1 pc = .ok (.getfield idx, 3)) (hq : pc + 3 = q) (kk : TT X q L (.ref r :: S) μ) : TT X pc L (.ref a :: S) μ := by
  obtain ⟨ha, fs, h1, z, h2⟩ := hs
  exact tt_getV hX hF ha h1 h2 (fun g => fvalD hf hr) hd hq kk
theorem mapIdx_set {g : Geo} {f : Nat → Int32} {fs : List (Nat × Nat)} {k : Nat} {dd : Nat × Nat} {v : Value} {x : Int32} (hk : fs[k]? = some dd) (hv : fval g (upd f k x) k dd = v) : (fs.mapIdx (fun k d => fval g f k d)).set k v = fs.mapIdx (fun j d => fval g (upd f k x) j d) := by
  apply List.ext_getElem?
  intro j
  by_cases e : j = k
  · subst e
    rw [List.getElem?_set_self (by simpa using (List.getElem?_eq_some_iff.mp hk).1), List.getElem?_mapIdx, hk, ← hv]
    rfl
  · rw [List.getElem?_set_ne (Ne.symm e), List.getElem?_mapIdx, List.getElem?_mapIdx]
    congr 1
    funext dd
    have hu : upd f k x j = f j := pk_un e
    simp only [fval, hu]
theorem tt_putV (hX : Cx X l d M) {pc q : Nat} {L S : List Value} {μ : Mem} {idx ci k a : Nat} {ty : FieldType} (hF : FLP M.2.2.2.2 idx ci k ty) {fs : List (Nat × Nat)} (ha : a < 112) (hs : ff_sh a = .inl (ci, fs)) {dd : Nat × Nat} (hk : fs[k]? = some dd) {v : Value} {x : Int32} (hv : ∀ g : Geo, fval g (upd (μ a) k x) k dd = tv g v) (hn : ∀ g : Geo, narrow ty (tv g v) = tv g v) (hfit : ∀ g : Geo, fits ty (tv g v) = true) (hd : decode M.2.1 pc = .ok (.putfield idx, 3)) (hq : pc + 3 = q) (kk : TT X q L S (mset μ a (upd (μ a) k x))) : TT X pc L (v :: .ref a :: S) μ := by
  obtain ⟨p, l', e, R, s, m, args, below, meth, c, Z, ce, sl, g, M', n0⟩ := X
  obtain ⟨rfl, rfl, rfl, hx, hb, hml, ho, hts, hK, hSS, hg, hfr, hlo, hce, hsl⟩ := hX
  subst hq
  intro H locs ls hP hS hl
  obtain ⟨C, T, N, h1, h2, h3, h4, ⟨ty0, h5⟩, h6, h7, h8⟩ := hF
  have hw : (wls g μ)[a]? = some (g.2.2.1 a, .inr (ci, fs.mapIdx (fun k d => fval g (μ a) k d))) := by
    rw [wls_at g μ ha, hs]
    rfl
  have hlt : k < (fs.mapIdx (fun k d => fval g (μ a) k d)).length := by
    rw [List.length_mapIdx]
    exact (List.getElem?_eq_some_iff.mp hk).1
  have hset : (wls g μ).set a (g.2.2.1 a, .inr (ci, (fs.mapIdx (fun k d => fval g (μ a) k d)).set k (tv g v))) = wls g (mset μ a (upd (μ a) k x)) := by
    rw [mapIdx_set hk (hv g), ← wls_set g μ ha, hs]
    rfl
  have kk' := fun (H1 : Heap) (locs1 : List Loc) (hP1 : va_P (gD g) vwCl ((wls g μ).set a (g.2.2.1 a, .inr (ci, (fs.mapIdx (fun k d => fval g (μ a) k d)).set k (tv g v)))) H1) (_ : va_D (AA g s.heap.size) ((wls g μ).set a (g.2.2.1 a, .inr (ci, (fs.mapIdx (fun k d => fval g (μ a) k d)).set k (tv g v))))) (hS1 : va_S (AA g s.heap.size) s.heap H1 locs1) => kk H1 locs1 ls (by rw [← hset]; exact hP1) hS1 hl
  rcases h4 with h4 | h4
  · exact va_put (D := gD g) (ci := ci) (ref := (T k).1) hx hb hts h3 ty0 h5 h6 ho hK.1 hP (wls_D hg μ _) hS a hw h1 k h2 (hts _ h4) (fun _ z => z) h7 h8 (hn g) (hfit g) hlt hd kk'
  · exact va_putN (D := gD g) (ci := ci) (ref := (T k).1) hx hb hts h3 ty0 h5 h6 ho hK.1 hP (wls_D hg μ _) hS a hw h1 k h2 (nest_use hK.2.1 h4 rfl) (fun _ z => z) h7 h8 (hn g) (hfit g) hlt hd kk'
theorem tt_putI (hX : Cx X l d M) {pc q : Nat} {L S : List Value} {μ : Mem} {idx ci k a : Nat} (hF : FLP M.2.2.2.2 idx ci k .int) (hs : HI a ci k) {x : Int32} (hd : decode M.2.1 pc = .ok (.putfield idx, 3)) (hq : pc + 3 = q) (kk : TT X q L S (mset μ a (upd (μ a) k x))) : TT X pc L (.int x :: .ref a :: S) μ := by
  obtain ⟨ha, fs, h1, z, h2⟩ := hs
  exact tt_putV hX hF ha h1 h2 (x := x) (fun g => by show Value.int _ = Value.int _; rw [pk_us]) (fun g => rfl) (fun g => rfl) hd hq kk
theorem tt_putZ (hX : Cx X l d M) {pc q : Nat} {L S : List Value} {μ : Mem} {idx ci k a : Nat} (hF : FLP M.2.2.2.2 idx ci k .boolean) (hs : HI a ci k) {x : Int32} (hx : x = 0 ∨ x = 1) (hd : decode M.2.1 pc = .ok (.putfield idx, 3)) (hq : pc + 3 = q) (kk : TT X q L S (mset μ a (upd (μ a) k x))) : TT X pc L (.int x :: .ref a :: S) μ := by
  obtain ⟨ha, fs, h1, z, h2⟩ := hs
  exact tt_putV hX hF ha h1 h2 (x := x) (fun g => by show Value.int _ = Value.int _; rw [pk_us]) (fun g => by rcases hx with rfl | rfl <;> rfl) (fun g => by rcases hx with rfl | rfl <;> rfl) hd hq kk
theorem tt_putD (hX : Cx X l d M) {pc q : Nat} {L S : List Value} {μ : Mem} {idx ci k a r : Nat} {C : String} (hF : FLP M.2.2.2.2 idx ci k (.object C)) (hs : HD a ci k) (hr : r < 2 ^ 31) (hd : decode M.2.1 pc = .ok (.putfield idx, 3)) (hq : pc + 3 = q) (kk : TT X q L S (mset μ a (upd (μ a) k (nI r)))) : TT X pc L (.ref r :: .ref a :: S) μ := by
  obtain ⟨ha, fs, h1, z, h2⟩ := hs
  exact tt_putV hX hF ha h1 h2 (x := nI r) (fun g => fvalD pk_us hr) (fun g => rfl) (fun g => rfl) hd hq kk
theorem inb_nI {i n : Nat} (h : i < n) (hn : n < 2 ^ 31) : vp_in (nI i) n := vp_in_nI h hn
theorem HA.w {a t n : Nat} (h : HA a t n) (g : Geo) (μ : Mem) : (wls g μ)[a]? = some (g.2.2.1 a, .inl (g.2.2.2 t, n, .inl (μ a))) := by
  rw [wls_at g μ h.1, h.2.1]
  rfl
theorem HA.set {a t n : Nat} (h : HA a t n) (g : Geo) (μ : Mem) (f : Nat → Int32) : (wls g μ).set a (g.2.2.1 a, .inl (g.2.2.2 t, n, .inl f)) = wls g (mset μ a f) := by
  rw [← wls_set g μ h.1, h.2.1]
  rfl
theorem HQ.w {a t n : Nat} {r : Nat → Nat} (h : HQ a t n r) (g : Geo) (μ : Mem) : (wls g μ)[a]? = some (g.2.2.1 a, .inl (g.2.2.2 t, n, .inr (.inr (.inr (.inr (fun j => some (g.2.2.1 (r j)))))))) := by
  rw [wls_at g μ h.1, h.2.1]
  rfl
theorem tt_iald (hX : Cx X l d M) {pc q : Nat} {L S : List Value} {μ : Mem} {a n i : Nat} (hA : HA a 0 n) (hi : i < n) (hd : decode M.2.1 pc = .ok (.iaload, 1)) (hq : pc + 1 = q) (kk : TT X q L (.int (μ a i) :: S) μ) : TT X pc L (.int (nI i) :: .ref a :: S) μ := by
  obtain ⟨p, l', e, R, s, m, args, below, meth, c, Z, ce, sl, g, M', n0⟩ := X
  obtain ⟨rfl, rfl, rfl, hx, hb, hml, ho, hts, hK, hSS, hg, hfr, hlo, hce, hsl⟩ := hX
  subst hq
  intro H locs ls hP hS hl
  have k2 := kk H locs ls hP hS hl
  refine va_iald (D := gD g) hx hb hK.1 hP a 0 (hA.w g μ) (tysG_at (t := 0) rfl) (inb_nI hi hA.2.2) hd ?_
  rw [nI_clamp (Nat.lt_trans hi hA.2.2)]
  exact k2
theorem tt_zald (hX : Cx X l d M) {pc q : Nat} {L S : List Value} {μ : Mem} {a n i : Nat} (hA : HA a 1 n) (hi : i < n) (hd : decode M.2.1 pc = .ok (.baload, 1)) (hq : pc + 1 = q) (kk : TT X q L (.int (μ a i) :: S) μ) : TT X pc L (.int (nI i) :: .ref a :: S) μ := by
  obtain ⟨p, l', e, R, s, m, args, below, meth, c, Z, ce, sl, g, M', n0⟩ := X
  obtain ⟨rfl, rfl, rfl, hx, hb, hml, ho, hts, hK, hSS, hg, hfr, hlo, hce, hsl⟩ := hX
  subst hq
  intro H locs ls hP hS hl
  have k2 := kk H locs ls hP hS hl
  refine va_zald (D := gD g) hx hb hK.1 hP a 1 (hA.w g μ) (tysG_at (t := 1) rfl) (inb_nI hi hA.2.2) hd ?_
  rw [nI_clamp (Nat.lt_trans hi hA.2.2)]
  exact k2
theorem tt_bald (hX : Cx X l d M) {pc q : Nat} {L S : List Value} {μ : Mem} {a n i : Nat} (hA : HA a 2 n) (hi : i < n) (hd : decode M.2.1 pc = .ok (.baload, 1)) (hq : pc + 1 = q) (kk : TT X q L (.int (μ a i) :: S) μ) : TT X pc L (.int (nI i) :: .ref a :: S) μ := by
  obtain ⟨p, l', e, R, s, m, args, below, meth, c, Z, ce, sl, g, M', n0⟩ := X
  obtain ⟨rfl, rfl, rfl, hx, hb, hml, ho, hts, hK, hSS, hg, hfr, hlo, hce, hsl⟩ := hX
  subst hq
  intro H locs ls hP hS hl
  have k2 := kk H locs ls hP hS hl
  refine va_bald (D := gD g) hx hb hK.1 hP a 2 (hA.w g μ) (tysG_at (t := 2) rfl) (inb_nI hi hA.2.2) hd ?_
  rw [nI_clamp (Nat.lt_trans hi hA.2.2)]
  exact k2
theorem tt_iast (hX : Cx X l d M) {pc q : Nat} {L S : List Value} {μ : Mem} {a n i : Nat} {v : Int32} (hA : HA a 0 n) (hi : i < n) (hd : decode M.2.1 pc = .ok (.iastore, 1)) (hq : pc + 1 = q) (kk : TT X q L S (mset μ a (upd (μ a) i v))) : TT X pc L (.int v :: .int (nI i) :: .ref a :: S) μ := by
  obtain ⟨p, l', e, R, s, m, args, below, meth, c, Z, ce, sl, g, M', n0⟩ := X
  obtain ⟨rfl, rfl, rfl, hx, hb, hml, ho, hts, hK, hSS, hg, hfr, hlo, hce, hsl⟩ := hX
  subst hq
  intro H locs ls hP hS hl
  refine va_iast (D := gD g) hx hb hK.1 hP (wls_D hg μ _) hS a 0 (hA.w g μ) (tysG_at (t := 0) rfl) (inb_nI hi hA.2.2) hd (fun H1 locs1 hP1 _ hS1 => ?_)
  rw [nI_clamp (Nat.lt_trans hi hA.2.2), hA.set g μ] at hP1
  exact kk H1 locs1 ls hP1 hS1 hl
theorem tt_zast (hX : Cx X l d M) {pc q : Nat} {L S : List Value} {μ : Mem} {a n i : Nat} {v : Int32} (hA : HA a 1 n) (hi : i < n) (hv : v = 0 ∨ v = 1) (hd : decode M.2.1 pc = .ok (.bastore, 1)) (hq : pc + 1 = q) (kk : TT X q L S (mset μ a (upd (μ a) i v))) : TT X pc L (.int v :: .int (nI i) :: .ref a :: S) μ := by
  obtain ⟨p, l', e, R, s, m, args, below, meth, c, Z, ce, sl, g, M', n0⟩ := X
  obtain ⟨rfl, rfl, rfl, hx, hb, hml, ho, hts, hK, hSS, hg, hfr, hlo, hce, hsl⟩ := hX
  subst hq
  intro H locs ls hP hS hl
  have hnar : vp_nar .boolean v = v := by rcases hv with rfl | rfl <;> rfl
  refine va_zast (D := gD g) hx hb hK.1 hP (wls_D hg μ _) hS a 1 (hA.w g μ) (tysG_at (t := 1) rfl) (inb_nI hi hA.2.2) hd (fun H1 locs1 hP1 _ hS1 => ?_)
  rw [nI_clamp (Nat.lt_trans hi hA.2.2), hnar, hA.set g μ] at hP1
  exact kk H1 locs1 ls hP1 hS1 hl
theorem tt_bast (hX : Cx X l d M) {pc q : Nat} {L S : List Value} {μ : Mem} {a n i : Nat} {v : Int32} (hA : HA a 2 n) (hi : i < n) (hv : v.toInt8.toInt32 = v) (hd : decode M.2.1 pc = .ok (.bastore, 1)) (hq : pc + 1 = q) (kk : TT X q L S (mset μ a (upd (μ a) i v))) : TT X pc L (.int v :: .int (nI i) :: .ref a :: S) μ := by
  obtain ⟨p, l', e, R, s, m, args, below, meth, c, Z, ce, sl, g, M', n0⟩ := X
  obtain ⟨rfl, rfl, rfl, hx, hb, hml, ho, hts, hK, hSS, hg, hfr, hlo, hce, hsl⟩ := hX
  subst hq
  intro H locs ls hP hS hl
  have hnar : vp_nar .byte v = v := by rw [vp_nar_byte]; exact hv
  refine va_bast (D := gD g) hx hb hK.1 hP (wls_D hg μ _) hS a 2 (hA.w g μ) (tysG_at (t := 2) rfl) (inb_nI hi hA.2.2) hd (fun H1 locs1 hP1 _ hS1 => ?_)
  rw [nI_clamp (Nat.lt_trans hi hA.2.2), hnar, hA.set g μ] at hP1
  exact kk H1 locs1 ls hP1 hS1 hl
theorem tt_aald (hX : Cx X l d M) {pc q : Nat} {L S : List Value} {μ : Mem} {a t n i : Nat} {r : Nat → Nat} (hA : HQ a t n r) (ht : t = 3 ∨ t = 4 ∨ t = 5) (hi : i < n) (hd : decode M.2.1 pc = .ok (.aaload, 1)) (hq : pc + 1 = q) (kk : TT X q L (.ref (r i) :: S) μ) : TT X pc L (.int (nI i) :: .ref a :: S) μ := by
  obtain ⟨p, l', e, R, s, m, args, below, meth, c, Z, ce, sl, g, M', n0⟩ := X
  obtain ⟨rfl, rfl, rfl, hx, hb, hml, ho, hts, hK, hSS, hg, hfr, hlo, hce, hsl⟩ := hX
  subst hq
  intro H locs ls hP hS hl
  have k2 := kk H locs ls hP hS hl
  have hlt : (nI i).toNatClampNeg < n := by rw [nI_clamp (Nat.lt_trans hi hA.2.2)]; exact hi
  have ha := hP a _ (hA.w g μ)
  obtain ⟨ty, hty, hrk⟩ : ∃ ty, tyL[t]? = some ty ∧ refKind ty = true := by
    rcases ht with rfl | rfl | rfl <;> exact ⟨_, rfl, rfl⟩
  have hcl := nI_clamp (Nat.lt_trans hi hA.2.2)
  refine W.aald (v := va_rf (some (g.2.2.1 (r i)))) (ty := ty) hx hb ha ((hK.1.2 t _ (tysG_at hty)).1 n (fun j => va_rf (some (g.2.2.1 (r j))))) hrk (fun q => by cases q) (by show ¬ (nI i < 0 ∨ (arrV _ _ _).slots.size ≤ _); rw [arrV_size]; exact inb_nI hi hA.2.2) (by show (arrV _ _ _).slots[_]? = _; rw [arrV_read _ _ hlt, hcl]) rfl rfl hd k2
theorem tt_alen (hX : Cx X l d M) {pc q : Nat} {L S : List Value} {μ : Mem} {a t n : Nat} (hA : HA a t n) (ht : t < 6) (hd : decode M.2.1 pc = .ok (.arraylength, 1)) (hq : pc + 1 = q) (kk : TT X q L (.int (nI n) :: S) μ) : TT X pc L (.ref a :: S) μ := by
  obtain ⟨p, l', e, R, s, m, args, below, meth, c, Z, ce, sl, g, M', n0⟩ := X
  obtain ⟨rfl, rfl, rfl, hx, hb, hml, ho, hts, hK, hSS, hg, hfr, hlo, hce, hsl⟩ := hX
  subst hq
  intro H locs ls hP hS hl
  obtain ⟨ty, hty⟩ : ∃ ty, tyL[t]? = some ty := ⟨_, List.getElem?_eq_getElem (h := ht)⟩
  exact va_alen (D := gD g) hx hb hK.1 hP a t (hA.w g μ) (tysG_at hty) rfl hd (kk H locs ls hP hS hl)
theorem tt_ldc (hX : Cx X l d M) {pc q : Nat} {L S : List Value} {μ : Mem} {idx : Nat} {v : Int32} (hw : Cond.constant M.2.2.2.2 idx v ∈ wsL_law) (hd : decode M.2.1 pc = .ok (.ldc idx, 2)) (hq : pc + 2 = q) (kk : TT X q L (.int v :: S) μ) : TT X pc L S μ := by
  obtain ⟨p, l', e, R, s, m, args, below, meth, c, Z, ce, sl, g, M', n0⟩ := X
  obtain ⟨rfl, rfl, rfl, hx, hb, hml, ho, hts, hK, hSS, hg, hfr, hlo, hce, hsl⟩ := hX
  subst hq
  intro H locs ls hP hS hl
  exact lv_ldc hx hb ho (hts _ hw) hd (kk H locs ls hP hS hl)
theorem tt_ldcw (hX : Cx X l d M) {pc q : Nat} {L S : List Value} {μ : Mem} {idx : Nat} {v : Int32} (hw : Cond.constant M.2.2.2.2 idx v ∈ wsL_law) (hd : decode M.2.1 pc = .ok (.ldc_w idx, 3)) (hq : pc + 3 = q) (kk : TT X q L (.int v :: S) μ) : TT X pc L S μ := by
  obtain ⟨p, l', e, R, s, m, args, below, meth, c, Z, ce, sl, g, M', n0⟩ := X
  obtain ⟨rfl, rfl, rfl, hx, hb, hml, ho, hts, hK, hSS, hg, hfr, hlo, hce, hsl⟩ := hX
  subst hq
  intro H locs ls hP hS hl
  exact lv_ldcw hx hb ho (hts _ hw) hd (kk H locs ls hP hS hl)
theorem tt_ldc2 (hX : Cx X l d M) {pc q : Nat} {L S : List Value} {μ : Mem} {idx : Nat} {v : Int64} (hw : Cond.constantLong M.2.2.2.2 idx v ∈ wsL_law) (hd : decode M.2.1 pc = .ok (.ldc2_w idx, 3)) (hq : pc + 3 = q) (kk : TT X q L (.long v :: S) μ) : TT X pc L S μ := by
  obtain ⟨p, l', e, R, s, m, args, below, meth, c, Z, ce, sl, g, M', n0⟩ := X
  obtain ⟨rfl, rfl, rfl, hx, hb, hml, ho, hts, hK, hSS, hg, hfr, hlo, hce, hsl⟩ := hX
  subst hq
  intro H locs ls hP hS hl
  exact lv_ldc2 hx hb ho (hts _ hw) hd (kk H locs ls hP hS hl)
theorem tt_ldcS (hX : Cx X l d M) {pc q : Nat} {L S : List Value} {μ : Mem} {idx w : Nat} (hw : (M.2.2.2.2, idx, w) ∈ litR) (hd : decode M.2.1 pc = .ok (.ldc idx, 2)) (hq : pc + 2 = q) (kk : TT X q L (.ref (112 + 2 * w) :: S) μ) : TT X pc L S μ := by
  obtain ⟨p, l', e, R, s, m, args, below, meth, c, Z, ce, sl, g, M', n0⟩ := X
  obtain ⟨rfl, rfl, rfl, hx, hb, hml, ho, hts, hK, hSS, hg, hfr, hlo, hce, hsl⟩ := hX
  subst hq
  intro H locs ls hP hS hl
  exact va_ldcS hx hb ho (hK.2.2 _ hw) hd (kk H locs ls hP hS hl)
end GP
/-- a method that is called: where its words stand -/
def MKV (M : MD) (n : Nat) : Prop := Cond.code M.1 M.2.1 M.2.2.1 M.2.2.2.1 ∈ wsL_law ∧ Cond.initialized M.2.2.2.2 ∈ wsL_law ∧ Cond.instanceMethod M.1 ∈ wsL_law ∧ Cond.selects M.2.2.2.2 M.1 M.1 ∈ wsL_law ∧ (M.1.cls ≠ "java/lang/invoke/MethodHandle" ∧ M.1.cls ≠ "java/lang/invoke/VarHandle" ∧ (parseMethodDescriptor M.1.desc).map (fun d => d.parameters.length) = some n) ∧ M.2.2.1 ≤ 21 ∧ M.1.cls = M.2.2.2.2
def MKS (M : MD) (n : Nat) : Prop := Cond.code M.1 M.2.1 M.2.2.1 M.2.2.2.1 ∈ wsL_law ∧ Cond.initialized M.2.2.2.2 ∈ wsL_law ∧ Cond.static M.1 ∈ wsL_law ∧ (M.1.cls ≠ "java/lang/invoke/MethodHandle" ∧ M.1.cls ≠ "java/lang/invoke/VarHandle" ∧ (parseMethodDescriptor M.1.desc).map (fun d => d.parameters.length) = some n) ∧ M.2.2.1 ≤ 21 ∧ M.1.cls = M.2.2.2.2
def MKI (M : MD) (n : Nat) : Prop := Cond.code M.1 M.2.1 M.2.2.1 M.2.2.2.1 ∈ wsL_law ∧ Cond.initialized M.2.2.2.2 ∈ wsL_law ∧ Cond.instanceMethod M.1 ∈ wsL_law ∧ (M.1.cls ≠ "java/lang/invoke/MethodHandle" ∧ M.1.cls ≠ "java/lang/invoke/VarHandle" ∧ (parseMethodDescriptor M.1.desc).map (fun d => d.parameters.length) = some n) ∧ M.2.2.1 ≤ 21 ∧ M.1.cls = M.2.2.2.2
theorem goodL : GoodIn wsL_law wsL_law := fun w hw => ⟨hw, good_of_word (List.all_eq_true.mp (show wsL_law.all goodWord = true by decide +kernel) w hw)⟩
