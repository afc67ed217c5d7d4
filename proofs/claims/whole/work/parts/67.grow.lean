/-! CONSTRUCTORS: a frame whose world grows (TG), and the contract of a constructor (CG) -/
abbrev XG : Type := Program × Launch × Env × Room × State × MethodId × Array Value × List Frame × Method × Code × (State → Prop) × Geo × MD × (Nat → Prop)
abbrev TGof (p : Program) (l : Launch) (e : Env) (R : Room) (s : State) (m : MethodId) (args : Array Value) (below : List Frame) (meth : Method) (c : Code) (Z : State → Prop) (g : Geo) (nL : Nat) (A : Nat → Prop) (pc : Nat) (L : List (Nat × Value)) (S : List Value) (ws : va_W) (ce sl : Nat) : Prop :=
  ∀ (H : Heap) (locs : List Loc) (ls : Array Slot), va_P (gD g) vwCl ws H → va_D A ws → va_S A s.heap H locs → lv_has ls nL L → W p l e R s m args below meth c H locs ce sl Z (F0 m pc ls S)
def TG (X : XG) (pc : Nat) (L : List (Nat × Value)) (S : List Value) (ws : va_W) (ce sl : Nat) : Prop :=
  match X with | (p, l, e, R, s, m, args, below, meth, c, Z, g, M, A) => TGof p l e R s m args below meth c Z g M.2.2.1 A pc L S ws ce sl
/-- the tables' numbers that a constructor asks for -/
def KG (g : Geo) (U : State) : Prop := va_K (gD g) vwCl (tysG g) U ∧ va_AO "FaceFlips$Heap" U ∧ (Cond.arrayOver (.array .boolean)).before #[] U = true ∧ (Cond.arrayOver (.array .int)).before #[] U = true ∧ (va_Nw (.methodLinkNest RX8 44 yX7_init RX8) U ∧ va_Nw (.methodLinkNest RX8 51 yX4_init RX8) U ∧ va_Nw (.methodLinkNest RX8 58 yX1_init RX8) U ∧ va_Nw (.methodLinkNest RX8 72 yX6_init RX8) U)
theorem KG.warm {g : Geo} {s U : State} (hW : s.WarmedH U.vm) (h : KG g s) : KG g U := ⟨va_K.moved hW.alike h.1, h.2.1.moved hW.alike, over_moved hW.alike h.2.2.1, over_moved hW.alike h.2.2.2.1, va_Nw.warmM hW h.2.2.2.2.1, va_Nw.warmM hW h.2.2.2.2.2.1, va_Nw.warmM hW h.2.2.2.2.2.2.1, va_Nw.warmM hW h.2.2.2.2.2.2.2⟩
theorem KG.same {g : Geo} {u U : State} (hv : u.vm = U.vm) (h : KG g u) : KG g U := by
  have hA : u.vm.Alike U.vm := by rw [hv]; exact Vm.Alike.refl U.vm
  exact ⟨va_K.moved hA h.1, h.2.1.moved hA, over_moved hA h.2.2.1, over_moved hA h.2.2.2.1, va_Nw.same rfl hv h.2.2.2.2.1, va_Nw.same rfl hv h.2.2.2.2.2.1, va_Nw.same rfl hv h.2.2.2.2.2.2.1, va_Nw.same rfl hv h.2.2.2.2.2.2.2⟩
def GC (X : XG) (l0 : Launch) (g0 : Geo) (d mc ms : Nat) (M : MD) : Prop :=
  match X with | (p, l, e, R, s, m, args, below, meth, c, Z, g, M', A) => l = l0 ∧ g = g0 ∧ M' = M ∧ p.tables.exec = Jvm.exec ∧ c.code = M.2.1 ∧ c.maxLocals = M.2.2.1 ∧ s.vm.findClass M.2.2.2.2 = some m.cls ∧ (∀ w ∈ wsL_law, w.before args s = true) ∧ KG g s ∧ (∀ q : Nat, s.heap.size ≤ q → A q) ∧ d ≤ R.frames ∧ 40 * d ≤ R.locals ∧ mc ≤ R.cells ∧ ms ≤ R.slots
abbrev QG (g : Geo) (B : va_W → Prop) (A : Nat → Prop) : Array Value → State → Outcome → State → Prop := va_Qv B (fun ws t => va_P (gD g) vwCl ws t.heap ∧ va_D A ws) A
/-- a constructor's own frame: and what is wanted at its end -/
def GM (X : XG) (l0 : Launch) (g0 : Geo) (d mc ms : Nat) (M : MD) (h0 : Nat) (e0 : va_E) (B : va_W → Prop) : Prop :=
  GC X l0 g0 d mc ms M ∧ match X with | (p, l, e, R, s, m, args, below, meth, c, Z, g, M', A) => meth.name = "<init>" ∧ meth.locks = false ∧ meth.sig.returnType = none ∧ A = va_A [(h0, e0)] s.heap.size ∧ Z = MQ below (QG g B A) args s mc ms A
def CG (l : Launch) (g : Geo) (d : Nat) (M : MD) (e0 : va_E) (B : Nat → va_W → Prop) (mc ms : Nat) : Prop :=
  ∀ (h0 sz : Nat), Met l M.1 (mws M) { frames := d, cells := mc, slots := ms, locals := 40 * d } (va_Pc [.ref h0] (fun U => U.heap.size = sz ∧ KG g U ∧ va_P (gD g) vwCl [(h0, e0)] U.heap)) (QG g (B h0) (va_A [(h0, e0)] sz)) mc ms (va_A [(h0, e0)] sz)
theorem d_one {A : Nat → Prop} {x : Nat × va_E} (h : A x.1) : va_D A [x] := by
  have key : ∀ (k : Nat) (q : Nat × va_E), [x][k]? = some q → k = 0 ∧ q = x := by
    intro k q hk
    have h0 : k < 1 := (List.getElem?_eq_some_iff.mp hk).1
    have h1 : k = 0 := by omega
    subst h1
    cases hk
    exact ⟨rfl, rfl⟩
  refine ⟨fun i j p q hi hj _ => ?_, fun k q hk => ?_⟩
  · rw [(key i p hi).1, (key j q hj).1]
  · rw [(key k q hk).2]
    exact h
theorem CG.of {l : Launch} {g : Geo} {d : Nat} {M : MD} {e0 : va_E} {B : Nat → va_W → Prop} {mc ms : Nat} (hy : plainName M.1.cls = true) (hown : M.1.cls = M.2.2.2.2) (hnm : M.1.name = "<init>") (hr : M.2.2.2.1 = none) (hn : 1 ≤ M.2.2.1)
    (h : ∀ (X : XG) (h0 : Nat), GM X l g d mc ms M h0 e0 (B h0) → TG X 0 [(0, .ref h0)] [] [(h0, e0)] 0 0) : CG l g d M e0 B mc ms := by
  intro h0 sz
  refine Met.ofW (cc := M.2.1) (maxL := M.2.2.1) (ret := M.2.2.2.1) hy rfl ?_
  intro p e s m args below meth c s₁ Bd hml hv
  obtain ⟨rfl, hsz, hK, hP⟩ := hv
  subst hsz
  have hts := atoms_spec (ws := mws M) Bd.pre
  have hcl : s.vm.findClass M.2.2.2.2 = some m.cls := by rw [← hown]; exact findClass_of_methodNamed Bd.named
  have hl := lv_entry ([.ref h0] : List Value) (n := M.2.2.1) hn
  rw [lg_entry_eq]
  generalize (lg_sl ([.ref h0] : List Value) ++ List.replicate (M.2.2.1 - (lg_sl ([.ref h0] : List Value)).length) Slot.unset).toArray = ls at hl ⊢
  have hin : meth.name = "<init>" := (name_of_methodNamed Bd.named Bd.method).1.trans hnm
  exact h (p, l, e, { frames := d, cells := mc, slots := ms, locals := 40 * d }, s, m, _, below, meth, c, _, g, M, va_A [(h0, e0)] s.heap.size) h0 ⟨⟨rfl, rfl, rfl, Bd.exec, Bd.bytes, hml, hcl, fun w hw => hts w (List.mem_cons_of_mem _ hw), hK, fun q h => Or.inr h, Nat.le_refl _, Nat.le_refl _, Nat.le_refl _, Nat.le_refl _⟩, hin, Bd.notSynchronized, Bd.returns.trans hr, rfl, rfl⟩ s.heap [] ls hP (d_one (Or.inl ⟨0, e0, rfl⟩)) va_S.rf hl
section GR
variable {X : XG} {l : Launch} {g : Geo} {d mc ms : Nat} {M : MD} {pc q : Nat} {L : List (Nat × Value)} {S : List Value} {ws : va_W} {ce sl : Nat}
theorem tg_al (hX : GC X l g d mc ms M) {x : Nat} (i : Nat) (k : Fin 4) (hk : (k : Nat) = i) (hd : decode M.2.1 pc = .ok (.aload_n k, 1)) (hL : (i, Value.ref x) ∈ L) (h : TG X (pc + 1) L (.ref x :: S) ws ce sl) : TG X pc L S ws ce sl := by
  obtain ⟨p, l', e, R, s, m, args, below, meth, c, Z, g0, M0, A⟩ := X
  obtain ⟨rfl, rfl, rfl, hx, hb, hml, ho, hts, hK, hA, hfr, hlo, hce, hsl⟩ := hX
  intro H locs ls hP hD hS hl
  exact lv_aload_n hx hb hd hk (hl.2.2 _ hL) (h H locs ls hP hD hS hl)
theorem tg_il (hX : GC X l g d mc ms M) {x : Int32} (i : Nat) (k : Fin 4) (hk : (k : Nat) = i) (hd : decode M.2.1 pc = .ok (.iload_n k, 1)) (hL : (i, Value.int x) ∈ L) (h : TG X (pc + 1) L (.int x :: S) ws ce sl) : TG X pc L S ws ce sl := by
  obtain ⟨p, l', e, R, s, m, args, below, meth, c, Z, g0, M0, A⟩ := X
  obtain ⟨rfl, rfl, rfl, hx, hb, hml, ho, hts, hK, hA, hfr, hlo, hce, hsl⟩ := hX
  intro H locs ls hP hD hS hl
  exact lv_iload_n hx hb hd hk (hl.2.2 _ hL) (h H locs ls hP hD hS hl)
theorem tg_ic (hX : GC X l g d mc ms M) {n : Int} (v : Int32) (hv : Int32.ofInt n = v) (hd : decode M.2.1 pc = .ok (.iconst n, 1)) (h : TG X (pc + 1) L (.int v :: S) ws ce sl) : TG X pc L S ws ce sl := by
  obtain ⟨p, l', e, R, s, m, args, below, meth, c, Z, g0, M0, A⟩ := X
  obtain ⟨rfl, rfl, rfl, hx, hb, hml, ho, hts, hK, hA, hfr, hlo, hce, hsl⟩ := hX
  intro H locs ls hP hD hS hl
  exact lv_iconst hx hb hd hv (h H locs ls hP hD hS hl)
theorem tg_bi (hX : GC X l g d mc ms M) {n : Int} (v : Int32) (hv : (Int8.ofInt n).toInt32 = v) (hd : decode M.2.1 pc = .ok (.bipush n, 2)) (h : TG X (pc + 2) L (.int v :: S) ws ce sl) : TG X pc L S ws ce sl := by
  obtain ⟨p, l', e, R, s, m, args, below, meth, c, Z, g0, M0, A⟩ := X
  obtain ⟨rfl, rfl, rfl, hx, hb, hml, ho, hts, hK, hA, hfr, hlo, hce, hsl⟩ := hX
  intro H locs ls hP hD hS hl
  exact lv_bipush hx hb hd hv (h H locs ls hP hD hS hl)
theorem tg_si (hX : GC X l g d mc ms M) {n : Int} (v : Int32) (hv : (Int16.ofInt n).toInt32 = v) (hd : decode M.2.1 pc = .ok (.sipush n, 3)) (h : TG X (pc + 3) L (.int v :: S) ws ce sl) : TG X pc L S ws ce sl := by
  obtain ⟨p, l', e, R, s, m, args, below, meth, c, Z, g0, M0, A⟩ := X
  obtain ⟨rfl, rfl, rfl, hx, hb, hml, ho, hts, hK, hA, hfr, hlo, hce, hsl⟩ := hX
  intro H locs ls hP hD hS hl
  exact lv_sipush hx hb hd hv (h H locs ls hP hD hS hl)
theorem tg_is (hX : GC X l g d mc ms M) {x : Int32} {L' : List (Nat × Value)} (i : Nat) (k : Fin 4) (hk : (k : Nat) = i) (hd : decode M.2.1 pc = .ok (.istore_n k, 1)) (hn : i < M.2.2.1) (hL : (i, Value.int x) :: L.filter (fun q => !(q.1 == i) && !(q.1 + 1 == i && q.2.category == 2)) = L') (h : TG X (pc + 1) L' S ws ce sl) : TG X pc L (.int x :: S) ws ce sl := by
  obtain ⟨p, l', e, R, s, m, args, below, meth, c, Z, g0, M0, A⟩ := X
  obtain ⟨rfl, rfl, rfl, hx, hb, hml, ho, hts, hK, hA, hfr, hlo, hce, hsl⟩ := hX
  intro H locs ls hP hD hS hl
  exact lv_istore_n hx hb hd hk hl hn hL (fun ls' hl' => h H locs ls' hP hD hS hl')
theorem tg_as (hX : GC X l g d mc ms M) {x : Nat} {L' : List (Nat × Value)} (i : Nat) (k : Fin 4) (hk : (k : Nat) = i) (hd : decode M.2.1 pc = .ok (.astore_n k, 1)) (hn : i < M.2.2.1) (hL : (i, Value.ref x) :: L.filter (fun q => !(q.1 == i) && !(q.1 + 1 == i && q.2.category == 2)) = L') (h : TG X (pc + 1) L' S ws ce sl) : TG X pc L (.ref x :: S) ws ce sl := by
  obtain ⟨p, l', e, R, s, m, args, below, meth, c, Z, g0, M0, A⟩ := X
  obtain ⟨rfl, rfl, rfl, hx, hb, hml, ho, hts, hK, hA, hfr, hlo, hce, hsl⟩ := hX
  intro H locs ls hP hD hS hl
  exact lv_astore_n hx hb hd hk hl hn hL (fun ls' hl' => h H locs ls' hP hD hS hl')
theorem tg_inc (hX : GC X l g d mc ms M) {x v : Int32} {n : Int} {L' : List (Nat × Value)} (i k : Nat) (hd : decode M.2.1 pc = .ok (.iinc i n, 3)) (hk : L[k]? = some (i, .int x)) (hv : x + Int32.ofInt n = v) (hn : i < M.2.2.1) (hL : (i, Value.int v) :: L.filter (fun q => !(q.1 == i) && !(q.1 + 1 == i && q.2.category == 2)) = L') (h : TG X (pc + 3) L' S ws ce sl) : TG X pc L S ws ce sl := by
  obtain ⟨p, l', e, R, s, m, args, below, meth, c, Z, g0, M0, A⟩ := X
  obtain ⟨rfl, rfl, rfl, hx, hb, hml, ho, hts, hK, hA, hfr, hlo, hce, hsl⟩ := hX
  intro H locs ls hP hD hS hl
  exact lv_iinc hx hb hd hl hk hv hn hL (fun ls' hl' => h H locs ls' hP hD hS hl')
theorem tg_go (hX : GC X l g d mc ms M) {off : Int} (t : Nat) (hd : decode M.2.1 pc = .ok (.goto off, 3)) (ht : (pc : Int) + off = (t : Int)) (h : TG X t L S ws ce sl) : TG X pc L S ws ce sl := by
  obtain ⟨p, l', e, R, s, m, args, below, meth, c, Z, g0, M0, A⟩ := X
  obtain ⟨rfl, rfl, rfl, hx, hb, hml, ho, hts, hK, hA, hfr, hlo, hce, hsl⟩ := hX
  intro H locs ls hP hD hS hl
  exact lv_goto hx hb hd ht (h H locs ls hP hD hS hl)
theorem tg_geT (hX : GC X l g d mc ms M) {x y : Int32} {off : Int} (t : Nat) (hd : decode M.2.1 pc = .ok (.if_icmp .ge off, 3)) (ht : (pc : Int) + off = (t : Int)) (hc : y ≤ x) (h : TG X t L S ws ce sl) : TG X pc L (.int y :: .int x :: S) ws ce sl := by
  obtain ⟨p, l', e, R, s, m, args, below, meth, c, Z, g0, M0, A⟩ := X
  obtain ⟨rfl, rfl, rfl, hx, hb, hml, ho, hts, hK, hA, hfr, hlo, hce, hsl⟩ := hX
  intro H locs ls hP hD hS hl
  exact lv_icmp_ge hx hb hd ht (fun _ => h H locs ls hP hD hS hl) (fun z => absurd hc z)
theorem tg_geF (hX : GC X l g d mc ms M) {x y : Int32} {off : Int} (t : Nat) (hd : decode M.2.1 pc = .ok (.if_icmp .ge off, 3)) (ht : (pc : Int) + off = (t : Int)) (hc : ¬ y ≤ x) (h : TG X (pc + 3) L S ws ce sl) : TG X pc L (.int y :: .int x :: S) ws ce sl := by
  obtain ⟨p, l', e, R, s, m, args, below, meth, c, Z, g0, M0, A⟩ := X
  obtain ⟨rfl, rfl, rfl, hx, hb, hml, ho, hts, hK, hA, hfr, hlo, hce, hsl⟩ := hX
  intro H locs ls hP hD hS hl
  exact lv_icmp_ge hx hb hd ht (fun z => absurd z hc) (fun _ => h H locs ls hP hD hS hl)
theorem tg_obj (hX : GC X l g d mc ms M) (hd1 : 1 ≤ d) {idx a : Nat} (hlk : Cond.methodLink M.2.2.2.2 idx objectInit ∈ wsL_law) (h2 : Cond.instanceMethod objectInit ∈ wsL_law) (h3 : Cond.code objectInit ⟨#[0xb1]⟩ 1 none ∈ wsL_law) (hd : decode M.2.1 pc = .ok (.invokespecial idx, 3)) (h : TG X (pc + 3) L [] ws ce sl) : TG X pc L [.ref a] ws ce sl := by
  obtain ⟨p, l', e, R, s, m, args, below, meth, c, Z, g0, M0, A⟩ := X
  obtain ⟨rfl, rfl, rfl, hx, hb, hml, ho, hts, hK, hA, hfr, hlo, hce, hsl⟩ := hX
  intro H locs ls hP hD hS hl
  refine W.objInit hx hb ho (hts _ hlk) (hts _ h2) (hts _ h3) rfl (by rw [hml]; exact hl.1) rfl hd (Nat.le_trans hd1 hfr) (Nat.le_trans (Nat.le_trans (Nat.le_of_ble_eq_true rfl : _ ≤ 40 * 1) (Nat.mul_le_mul_left 40 hd1)) hlo) ?_
  exact h H locs ls hP hD hS hl
theorem ra_uniq {U : State} {c1 c2 : ClassId} {ty : FieldType} (h1 : va_RA U c1 ty) (h2 : va_RA U c2 ty) : c1 = c2 := by
  cases ty with
  | object C =>
    obtain ⟨_, _, _, _, _, a⟩ := h1
    obtain ⟨_, _, _, _, _, b⟩ := h2
    exact Option.some.inj (a.symm.trans b)
  | _ => exact Option.some.inj (Eq.trans (Eq.symm h1) h2)
theorem tg_na (hX : GC X l g d mc ms M) {atype : ArrayType} {ty : FieldType} {t : Nat} (hty : newarray.typeOf atype = ty) (ht : tyL[t]? = some ty) (harr : Cond.arrayClass (newarray.typeOf atype) ∈ wsL_law) (hdv : defaultValue ty = .int 0) {n : Int32} (N : Nat) (hn : ¬ n < 0) (hN : n.toNatClampNeg = N) (hbytes : N * componentBytes ty ≤ 536870912) (hc : ce + 1 ≤ mc) (hs : sl + N ≤ ms) (hd : decode M.2.1 pc = .ok (.newarray atype, 2))
    (h : ∀ a : Nat, TG X (pc + 2) L (.ref a :: S) (ws ++ [(a, .inl (g.2.2.2 t, N, .inl (fun _ => 0)))]) (ce + 1) (sl + N)) : TG X pc L (.int n :: S) ws ce sl := by
  obtain ⟨p, l', e, R, s, m, args, below, meth, c, Z, g0, M0, A⟩ := X
  obtain ⟨rfl, rfl, rfl, hx, hb, hml, ho, hts, hK, hA, hfr, hlo, hce, hsl⟩ := hX
  intro H locs ls hP hD hS hl
  refine va_newa hx hb (hts _ harr) hty hK.1 hP hD hS hA (a0 := (N, .inl (fun _ => 0))) (fun cA => by rw [hdv]; rfl) hn hN hbytes (Nat.le_trans hc hce) (Nat.le_trans hs hsl) hd (fun a cA H1 hK1 hP1 hD1 hS1 => ?_)
  have e1 : cA = g0.2.2.2 t := ra_uniq (hK1.2 (tysG g0).length (cA, ty) (by simp)).2 (hK.1.2 t _ (tysG_at ht)).2
  subst e1
  exact h a H1 locs ls hP1 hD1 hS1 hl
theorem tg_put (hX : GC X l g d mc ms M) {T : u_T} {N ci idx h0 : Nat} {fs : List Value} {v : Value} (hin : ∀ w ∈ u_ws M.2.2.2.2 T N, w ∈ wsL_law) (ty0 : Nat → FieldType) (hty : ∀ k, k < N → parseFieldDescriptor (T k).2.2.1 = some (ty0 k)) (hnm : ∀ a, a < N → ∀ b, b < N → a ≠ b → (T a).2.1 ≠ (T b).2.1) (hc : vwCl[ci]? = some (M.2.2.2.2, T, N)) (k : Nat) (hk : k < N) (hlk : Cond.fieldLink M.2.2.2.2 idx M.2.2.2.2 (T k).2.1 (T k).2.2.1 ∈ wsL_law) (hcl : (T k).1 = M.2.2.2.2) (hfin : (T k).2.2.2 = false) (hn : narrow (ty0 k) v = v) (hfit : fits (ty0 k) v = true) (hl0 : k < fs.length) (hd : decode M.2.1 pc = .ok (.putfield idx, 3)) (h : TG X (pc + 3) L S ((h0, .inr (ci, fs.set k v)) :: ws) ce sl) : TG X pc L (v :: .ref h0 :: S) ((h0, .inr (ci, fs)) :: ws) ce sl := by
  obtain ⟨p, l', e, R, s, m, args, below, meth, c, Z, g0, M0, A⟩ := X
  obtain ⟨rfl, rfl, rfl, hx, hb, hml, ho, hts, hK, hA, hfr, hlo, hce, hsl⟩ := hX
  intro H locs ls hP hD hS hl
  exact va_put (ref := M0.2.2.2.2) hx hb hts hin ty0 hty hnm ho hK.1 hP hD hS 0 rfl hc k hk (hts _ hlk) (by rw [hcl]; exact fun _ z => z) hfin (hty k hk) hn hfit hl0 hd (fun H1 locs1 hP1 hD1 hS1 => h H1 locs1 ls hP1 hD1 hS1 hl)
theorem tg_putF (hX : GC X l g d mc ms M) (hI : ∀ p l e R s m args below meth c Z g M A, X = (p, l, e, R, s, m, args, below, meth, c, Z, g, M, A) → meth.name = "<init>") {T : u_T} {N ci idx h0 : Nat} {fs : List Value} {v : Value} (hin : ∀ w ∈ u_ws M.2.2.2.2 T N, w ∈ wsL_law) (ty0 : Nat → FieldType) (hty : ∀ k, k < N → parseFieldDescriptor (T k).2.2.1 = some (ty0 k)) (hnm : ∀ a, a < N → ∀ b, b < N → a ≠ b → (T a).2.1 ≠ (T b).2.1) (hc : vwCl[ci]? = some (M.2.2.2.2, T, N)) (k : Nat) (hk : k < N) (hlk : Cond.fieldLink M.2.2.2.2 idx M.2.2.2.2 (T k).2.1 (T k).2.2.1 ∈ wsL_law) (hcl : (T k).1 = M.2.2.2.2) (hfin : (T k).2.2.2 = true) (hn : narrow (ty0 k) v = v) (hfit : fits (ty0 k) v = true) (hl0 : k < fs.length) (hd : decode M.2.1 pc = .ok (.putfield idx, 3)) (h : TG X (pc + 3) L S ((h0, .inr (ci, fs.set k v)) :: ws) ce sl) : TG X pc L (v :: .ref h0 :: S) ((h0, .inr (ci, fs)) :: ws) ce sl := by
  obtain ⟨p, l', e, R, s, m, args, below, meth, c, Z, g0, M0, A⟩ := X
  have hI := hI _ _ _ _ _ _ _ _ _ _ _ _ _ _ rfl
  obtain ⟨rfl, rfl, rfl, hx, hb, hml, ho, hts, hK, hA, hfr, hlo, hce, hsl⟩ := hX
  intro H locs ls hP hD hS hl
  exact va_putF (ref := M0.2.2.2.2) hx hb hts hin ty0 hty hnm ho hK.1 hP hD hS 0 rfl hc k hk (hts _ hlk) (by rw [hcl]; exact fun _ z => z) hfin hI hcl (hty k hk) hn hfit hl0 hd (fun H1 locs1 hP1 hD1 hS1 => h H1 locs1 ls hP1 hD1 hS1 hl)
theorem tg_get (hX : GC X l g d mc ms M) {T : u_T} {N ci idx h0 : Nat} {fs : List Value} {v : Value} (hin : ∀ w ∈ u_ws M.2.2.2.2 T N, w ∈ wsL_law) (hc : vwCl[ci]? = some (M.2.2.2.2, T, N)) (k : Nat) (hk : k < N) (hlk : Cond.fieldLink M.2.2.2.2 idx M.2.2.2.2 (T k).2.1 (T k).2.2.1 ∈ wsL_law) (hcl : (T k).1 = M.2.2.2.2) (hv : fs[k]? = some v) (hd : decode M.2.1 pc = .ok (.getfield idx, 3)) (h : TG X (pc + 3) L (v :: S) ((h0, .inr (ci, fs)) :: ws) ce sl) : TG X pc L (.ref h0 :: S) ((h0, .inr (ci, fs)) :: ws) ce sl := by
  obtain ⟨p, l', e, R, s, m, args, below, meth, c, Z, g0, M0, A⟩ := X
  obtain ⟨rfl, rfl, rfl, hx, hb, hml, ho, hts, hK, hA, hfr, hlo, hce, hsl⟩ := hX
  intro H locs ls hP hD hS hl
  exact va_get (ref := M0.2.2.2.2) hx hb hts hin ho hK.1 hP 0 rfl hc k hk (hts _ hlk) (by rw [hcl]; exact fun _ z => z) hv hd (h H locs ls hP hD hS hl)
theorem tg_ast (hX : GC X l g d mc ms M) (q0 qk ci : Nat) {a n v : Nat} {r : vw_C} {vs : List Value} {f : Nat → Option Nat} (ht : tyL[3]? = some (.object r.1)) (ha : ws[q0]? = some (a, .inl (g.2.2.2 3, n, .inr (.inr (.inr (.inr f)))))) (hv : ws[qk]? = some (v, .inr (ci, vs))) (hc : vwCl[ci]? = some r) {i : Int32} (hin : vp_in i n) (hd : decode M.2.1 pc = .ok (.aastore, 1))
    (h : TG X (pc + 1) L S (ws.set q0 (a, .inl (g.2.2.2 3, n, .inr (.inr (.inr (.inr (va_up f i.toNatClampNeg (some v)))))))) ce sl) : TG X pc L (.ref v :: .int i :: .ref a :: S) ws ce sl := by
  obtain ⟨p, l', e, R, s, m, args, below, meth, c, Z, g0, M0, A⟩ := X
  obtain ⟨rfl, rfl, rfl, hx, hb, hml, ho, hts, hK, hA, hfr, hlo, hce, hsl⟩ := hX
  intro H locs ls hP hD hS hl
  exact va_astq hx hb hK.1 hP hD hS q0 3 qk ci ha (tysG_at ht) hv hc hin hd (fun H1 locs1 hP1 hD1 hS1 => h H1 locs1 ls hP1 hD1 hS1 hl)
theorem tg_iast (hX : GC X l g d mc ms M) (q0 : Nat) {a n : Nat} {f : Nat → Int32} (ha : ws[q0]? = some (a, .inl (g.2.2.2 0, n, .inl f))) {i x : Int32} (hin : vp_in i n) (hd : decode M.2.1 pc = .ok (.iastore, 1))
    (h : TG X (pc + 1) L S (ws.set q0 (a, .inl (g.2.2.2 0, n, .inl (upd f i.toNatClampNeg x)))) ce sl) : TG X pc L (.int x :: .int i :: .ref a :: S) ws ce sl := by
  obtain ⟨p, l', e, R, s, m, args, below, meth, c, Z, g0, M0, A⟩ := X
  obtain ⟨rfl, rfl, rfl, hx, hb, hml, ho, hts, hK, hA, hfr, hlo, hce, hsl⟩ := hX
  intro H locs ls hP hD hS hl
  exact va_iast hx hb hK.1 hP hD hS q0 0 ha (tysG_at rfl) hin hd (fun H1 locs1 hP1 hD1 hS1 => h H1 locs1 ls hP1 hD1 hS1 hl)
theorem tg_nq (hX : GC X l g d mc ms M) {idx : Nat} (hlk : Cond.classLink M.2.2.2.2 idx "FaceFlips$Heap" ∈ wsL_law) {n : Int32} (N : Nat) (hn : ¬ n < 0) (hN : n.toNatClampNeg = N) (hbytes : N * 4 ≤ 536870912) (hc : ce + 1 ≤ mc) (hs : sl + N ≤ ms) (hd : decode M.2.1 pc = .ok (.anewarray idx, 3))
    (h : ∀ a : Nat, TG X (pc + 3) L (.ref a :: S) (ws ++ [(a, .inl (g.2.2.2 3, N, .inr (.inr (.inr (.inr (fun _ => none))))))]) (ce + 1) (sl + N)) : TG X pc L (.int n :: S) ws ce sl := by
  obtain ⟨p, l', e, R, s, m, args, below, meth, c, Z, g0, M0, A⟩ := X
  obtain ⟨rfl, rfl, rfl, hx, hb, hml, ho, hts, hK, hA, hfr, hlo, hce, hsl⟩ := hX
  intro H locs ls hP hD hS hl
  refine va_newq hx hb ho (hts _ hlk) hK.2.1 hK.1 hP hD hS hA hn hN hbytes (Nat.le_trans hc hce) (Nat.le_trans hs hsl) hd (fun a cA H1 hK1 hP1 hD1 hS1 => ?_)
  have e1 : cA = g0.2.2.2 3 := ra_uniq (hK1.2 (tysG g0).length (cA, .object "FaceFlips$Heap") (by simp)).2 (hK.1.2 3 _ (tysG_at rfl)).2
  subst e1
  exact h a H1 locs ls hP1 hD1 hS1 hl
theorem tg_mna (hX : GC X l g d mc ms M) {idx t t2 : Nat} {ty : FieldType} (hty : tyL[t]? = some ty) (ht2 : tyL[t2]? = some (.array ty)) (hno : ∀ C : String, ty ≠ .object C) (hover : ∀ U, KG g U → (Cond.arrayOver (.array ty)).before #[] U = true) (hlk : Cond.classLink M.2.2.2.2 idx ("[" ++ (FieldType.array ty).toString) ∈ wsL_law) (harr : Cond.arrayClass ty ∈ wsL_law) (hdv : defaultValue ty = .int 0) {n k : Int32} (N K : Nat) (hn : ¬ n < 0) (hk : ¬ k < 0) (hN : n.toNatClampNeg = N) (hK0 : k.toNatClampNeg = K) (hb1 : N * 4 ≤ 536870912) (hb2 : K * componentBytes ty ≤ 536870912) (hb3 : K ≤ 536870912) (hdf : fits ty (defaultValue ty) = true) (hdd : (defaultValue ty).isDefault = true) (hc : ce + (1 + N) ≤ mc) (hs : sl + (N + N * K) ≤ ms) (hd : decode M.2.1 pc = .ok (.multianewarray idx 2, 4))
    (h : ∀ (a : Nat) (r : Nat → Nat), TG X (pc + 4) L (.ref a :: S) (ws ++ ((a, .inl (g.2.2.2 t2, N, .inr (.inr (.inr (.inr (fun i => if i < N then some (r i) else none)))))) :: (List.range N).map (fun i => ((r i, .inl (g.2.2.2 t, K, .inl (fun _ => 0))) : Nat × va_E)))) (ce + 1 + N) (sl + N + N * K)) : TG X pc L (.int k :: .int n :: S) ws ce sl := by
  obtain ⟨p, l', e, R, s, m, args, below, meth, c, Z, g0, M0, A⟩ := X
  obtain ⟨rfl, rfl, rfl, hx, hb, hml, ho, hts, hK, hA, hfr, hlo, hce, hsl⟩ := hX
  intro H locs ls hP hD hS hl
  have hov : (Cond.arrayOver (.array ty)).before args s = true := over_moved (Vm.Alike.refl s.vm) (hover s hK)
  have hcy : s.vm.findClass (FieldType.array ty).toString = some (g0.2.2.2 t) := by
    have h1 := (hK.1.2 t _ (tysG_at hty)).2
    cases ty with
    | object C => exact absurd rfl (hno C)
    | _ => exact h1
  have e0 : ws ++ va_pl [] (fun _ => (.inl (0, 0, .inl (fun _ => 0)) : va_E)) = ws := List.append_nil ws
  refine va_mna (L := []) (f := fun _ => .inl (0, 0, .inl (fun _ => 0))) (z := (K, .inl (fun _ => 0))) hx hb ho (hts _ hlk) hov (hts _ harr) hcy hK.1 (by rw [e0]; exact hP) (by rw [e0]; exact hD) hS hA hn hk hN hK0 hb1 hb2 hb3 hdf hdd (Nat.le_trans hc hce) (Nat.le_trans hs hsl) (fun cA => by rw [hdv]; exact arrV_new _ _ _) hd (fun a r cA H1 _ _ hK1 hP1 hD1 hS1 => ?_)
  have e1 : cA = g0.2.2.2 t2 := ra_uniq (hK1.2 (tysG g0).length (cA, .array ty) (by simp)).2 (hK.1.2 t2 _ (tysG_at ht2)).2
  subst e1
  have e2 : va_pl ([] ++ (List.range N).map r) (vr_up (fun _ => (.inl (0, 0, .inl (fun _ => 0)) : va_E)) ((List.range N).map r) (.inl (g0.2.2.2 t, K, .inl (fun _ => 0)))) = (List.range N).map (fun i => ((r i, .inl (g0.2.2.2 t, K, .inl (fun _ => 0))) : Nat × va_E)) := by
    rw [List.nil_append]
    unfold va_pl
    rw [List.map_map]
    apply List.map_congr_left
    intro i hi
    show (r i, vr_up _ _ _ (r i)) = _
    rw [vr_up_in (List.mem_map.mpr ⟨i, hi, rfl⟩)]
  rw [e2, List.append_assoc] at hP1 hD1
  exact h a r H1 locs ls hP1 hD1 hS1 hl
theorem tg_join {A : Nat → Prop} {D : va_G} {cl : List vw_C} {x : Nat × va_E} {w1 : va_W} {H H1 : Heap} (hP : va_P D cl (ws ++ [x]) H) (hD : va_D A (ws ++ [x])) (hk : ∀ q : Nat, q < H.size → ¬ va_A [x] H.size q → H1[q]? = H[q]?) (hF : ∀ q, va_A [x] H.size q → A q) (hP1 : va_P D cl w1 H1) (hD1 : va_D (va_A [x] H.size) w1) : va_P D cl (ws ++ w1) H1 ∧ va_D A (ws ++ w1) := by
  have hl : ∀ (k : Nat) (q : Nat × va_E), ws[k]? = some q → (ws ++ [x])[k]? = some q := fun k q h => by
    rw [List.getElem?_append_left (List.getElem?_eq_some_iff.mp h).1]
    exact h
  have hx : (ws ++ [x])[ws.length]? = some x := by simp
  have apart : ∀ (k : Nat) (q : Nat × va_E), ws[k]? = some q → q.1 < H.size ∧ ¬ va_A [x] H.size q.1 := by
    intro k q hq
    have h1 := (hP k q (hl k q hq)).lt
    refine ⟨h1, fun z => ?_⟩
    rcases z with ⟨k2, e2, z⟩ | z
    · have h0 : k2 < 1 := (List.getElem?_eq_some_iff.mp z).1
      rw [show k2 = 0 by omega] at z
      have hz : x = (q.1, e2) := Option.some.inj z
      have := hD.1 k ws.length q x (hl k q hq) hx (by rw [hz])
      have := (List.getElem?_eq_some_iff.mp hq).1
      omega
    · omega
  refine ⟨va_P.app (fun k q hq => ?_) hP1, va_D.app ⟨fun i j p q hi hj => hD.1 i j p q (hl i p hi) (hl j q hj), fun k q hq => hD.2 k q (hl k q hq)⟩ (hD1.weaken (fun k q _ h => hF q.1 h)) (fun i j a b ha hb hab => ?_)⟩
  · exact (hP k q (hl k q hq)).kept (hk q.1 (apart k q hq).1 (apart k q hq).2)
  · exact (apart i a ha).2 (by rw [hab]; exact hD1.2 j b hb)
theorem tg_new (hX : GC X l g d mc ms M) {d' mc' ms' : Nat} {M' : MD} {ci i1 i2 N : Nat} {T : u_T} {dfs : List Value} {B : Nat → va_W → Prop} (hC : CG l g d' M' (.inr (ci, dfs)) B mc' ms') (hM : MKI M' 0) (hnm : M'.1.name = "<init>") (hret : M'.2.2.2.1 = none) (hdd : d' + 1 ≤ d) (hci : vwCl[ci]? = some (M'.2.2.2.2, T, N)) (hin : ∀ w ∈ u_ws M'.2.2.2.2 T N, w ∈ wsL_law) (ty : Nat → FieldType) (hty : ∀ k, k < N → parseFieldDescriptor (T k).2.2.1 = some (ty k)) (hcl : Cond.classLink M.2.2.2.2 i1 M'.2.2.2.2 ∈ wsL_law) (hinst : Cond.instantiable M'.2.2.2.2 N ∈ wsL_law) (hfs : ∀ j, j < N → defaultValue (ty j) = vp_V dfs j) (hlk : Cond.methodLink M.2.2.2.2 i2 M'.1 ∈ wsL_law) (hd1 : decode M.2.1 pc = .ok (.new i1, 3)) (hd2 : decode M.2.1 (pc + 3) = .ok (.dup, 1)) (hd3 : decode M.2.1 (pc + 3 + 1) = .ok (.invokespecial i2, 3)) (hc : ce + 1 + mc' ≤ mc) (hs : sl + N + ms' ≤ ms) (hcat : (S.map fun v => v.category).sum ≤ 7)
    (h : ∀ (a : Nat) (w1 : va_W), B a w1 → TG X (pc + 3 + 1 + 3) L (.ref a :: S) (ws ++ w1) (ce + 1 + mc') (sl + N + ms')) : TG X pc L S ws ce sl := by
  obtain ⟨p, l', e, R, s, m, args, below, meth, c, Z, g0, M0, A⟩ := X
  obtain ⟨rfl, rfl, rfl, hx, hb, hml, ho, hts, hK, hA, hfr, hlo, hce, hsl⟩ := hX
  intro H locs ls hP hD hS hl
  obtain ⟨m1, m2, m3, m5, m6, m7⟩ := hM
  have hgi : GoodIn wsL_law (mws M') := fun w hw => (List.mem_cons.mp hw).elim (fun e => by rw [e]; exact goodL _ m1) (goodL w)
  refine va_new (ci := ci) (fs := dfs) hx hb hts hin ty hty ho (hts _ hcl) (hts _ hinst) (hts _ m2) hK.1 hP hD hS hA hci hfs (by omega) (by omega) hd1 (fun a H1 hP1 hD1 hS1 => ?_)
  refine lv_dup hx hb hd2 rfl ?_
  have hF : ∀ z, va_A [(a, .inr (ci, dfs))] H1.size z → A z := fun z hz => by
    rcases hz with ⟨k2, e2, hz⟩ | hz
    · have h0 : k2 < 1 := (List.getElem?_eq_some_iff.mp hz).1
      rw [show k2 = 0 by omega] at hz
      cases hz
      exact hD1.2 ws.length (a, .inr (ci, dfs)) (by simp)
    · exact hA z (Nat.le_trans hS1.1 hz)
  have hPa : va_P (gD g0) vwCl [(a, .inr (ci, dfs))] H1 := fun k2 q2 hq2 => by
    have h0 : k2 < 1 := (List.getElem?_eq_some_iff.mp hq2).1
    rw [show k2 = 0 by omega] at hq2
    cases hq2
    exact hP1 ws.length _ (by simp)
  obtain ⟨n1, n2, n3, n4, n5⟩ := M'
  have hret : n4 = none := hret
  subst hret
  refine va_callv (A1 := va_A [(a, .inr (ci, dfs))] H1.size) (va_runI (As := []) (rest := .ref a :: S) (n := 0) ⟨hx, hb, hml, ho, hts⟩ (hC a H1.size) ⟨callB_of (ws := mws (n1, n2, n3, none, n5)) (rm := { frames := d', cells := mc', slots := ms', locals := 40 * d' }) 0 hts hgi rfl rfl rfl (by rw [m7]; exact hts _ m2) (hts _ hlk) m5 ⟨by show d' + 1 ≤ R.frames; omega, by show 8 + (n3 + 11) + 40 * d' ≤ R.locals; have : n3 ≤ 21 := m6; omega⟩, hnm, hts _ m3⟩ ⟨fun a2 U f mk q => ⟨q.1, q.2.1, KG.same (u := U) (U := U.calling f mk a2) rfl q.2.2.1, q.2.2.2⟩, fun U hU hW => ⟨rfl, by rw [hU], hK.warm hW, by rw [hU]; exact hPa⟩⟩ rfl rfl hl.1 rfl (lv_room (show 1 + (S.map fun v => v.category).sum ≤ 8 by omega)) hd3 ⟨Nat.le_trans hc hce, Nat.le_trans hs hsl⟩) hS1 (fun z _ hz => hF z hz) hF (fun u t H2 locs2 ht hvm hw hB hz hk hS2 => ?_)
  obtain ⟨hP2, hD2⟩ := hB
  rw [ht] at hP2
  obtain ⟨hP3, hD3⟩ := tg_join hP1 hD1 hk hF hP2 hD2
  exact h a u hw H2 locs2 ls hP3 hD3 hS2 hl
theorem tg_newN (hX : GC X l g d mc ms M) {d' mc' ms' : Nat} {M' : MD} {ci i1 i2 N : Nat} {T : u_T} {dfs : List Value} {B : Nat → va_W → Prop} (hC : CG l g d' M' (.inr (ci, dfs)) B mc' ms') (hM : MKI M' 0) (hnm : M'.1.name = "<init>") (hret : M'.2.2.2.1 = none) (hdd : d' + 1 ≤ d) (hci : vwCl[ci]? = some (M'.2.2.2.2, T, N)) (hin : ∀ w ∈ u_ws M'.2.2.2.2 T N, w ∈ wsL_law) (ty : Nat → FieldType) (hty : ∀ k, k < N → parseFieldDescriptor (T k).2.2.1 = some (ty k)) (hcl : Cond.classLink M.2.2.2.2 i1 M'.2.2.2.2 ∈ wsL_law) (hinst : Cond.instantiable M'.2.2.2.2 N ∈ wsL_law) (hfs : ∀ j, j < N → defaultValue (ty j) = vp_V dfs j) {host : String} (hlk : ∀ U : State, KG g U → va_Nw (.methodLinkNest M.2.2.2.2 i2 M'.1 host) U) (hd1 : decode M.2.1 pc = .ok (.new i1, 3)) (hd2 : decode M.2.1 (pc + 3) = .ok (.dup, 1)) (hd3 : decode M.2.1 (pc + 3 + 1) = .ok (.invokespecial i2, 3)) (hc : ce + 1 + mc' ≤ mc) (hs : sl + N + ms' ≤ ms) (hcat : (S.map fun v => v.category).sum ≤ 7)
    (h : ∀ (a : Nat) (w1 : va_W), B a w1 → TG X (pc + 3 + 1 + 3) L (.ref a :: S) (ws ++ w1) (ce + 1 + mc') (sl + N + ms')) : TG X pc L S ws ce sl := by
  obtain ⟨p, l', e, R, s, m, args, below, meth, c, Z, g0, M0, A⟩ := X
  obtain ⟨rfl, rfl, rfl, hx, hb, hml, ho, hts, hK, hA, hfr, hlo, hce, hsl⟩ := hX
  intro H locs ls hP hD hS hl
  obtain ⟨m1, m2, m3, m5, m6, m7⟩ := hM
  have hgi : GoodIn wsL_law (mws M') := fun w hw => (List.mem_cons.mp hw).elim (fun e => by rw [e]; exact goodL _ m1) (goodL w)
  refine va_new (ci := ci) (fs := dfs) hx hb hts hin ty hty ho (hts _ hcl) (hts _ hinst) (hts _ m2) hK.1 hP hD hS hA hci hfs (by omega) (by omega) hd1 (fun a H1 hP1 hD1 hS1 => ?_)
  refine lv_dup hx hb hd2 rfl ?_
  have hF : ∀ z, va_A [(a, .inr (ci, dfs))] H1.size z → A z := fun z hz => by
    rcases hz with ⟨k2, e2, hz⟩ | hz
    · have h0 : k2 < 1 := (List.getElem?_eq_some_iff.mp hz).1
      rw [show k2 = 0 by omega] at hz
      cases hz
      exact hD1.2 ws.length (a, .inr (ci, dfs)) (by simp)
    · exact hA z (Nat.le_trans hS1.1 hz)
  have hPa : va_P (gD g0) vwCl [(a, .inr (ci, dfs))] H1 := fun k2 q2 hq2 => by
    have h0 : k2 < 1 := (List.getElem?_eq_some_iff.mp hq2).1
    rw [show k2 = 0 by omega] at hq2
    cases hq2
    exact hP1 ws.length _ (by simp)
  obtain ⟨n1, n2, n3, n4, n5⟩ := M'
  have hret : n4 = none := hret
  subst hret
  refine va_callv (A1 := va_A [(a, .inr (ci, dfs))] H1.size) (va_runIN (As := []) (rest := .ref a :: S) (n := 0) ⟨hx, hb, hml, ho, hts⟩ (hC a H1.size) ⟨va_cnB (ws := mws (n1, n2, n3, none, n5)) (rm := { frames := d', cells := mc', slots := ms', locals := 40 * d' }) 0 hts hgi rfl rfl rfl (hlk s hK) (by rw [m7]; exact hts _ m2) m5 ⟨by show d' + 1 ≤ R.frames; omega, by show 8 + (n3 + 11) + 40 * d' ≤ R.locals; have : n3 ≤ 21 := m6; omega⟩, hnm, hts _ m3⟩ ⟨fun a2 U f mk q => ⟨q.1, q.2.1, KG.same (u := U) (U := U.calling f mk a2) rfl q.2.2.1, q.2.2.2⟩, fun U hU hW => ⟨rfl, by rw [hU], hK.warm hW, by rw [hU]; exact hPa⟩⟩ rfl rfl hl.1 rfl (lv_room (show 1 + (S.map fun v => v.category).sum ≤ 8 by omega)) hd3 ⟨Nat.le_trans hc hce, Nat.le_trans hs hsl⟩) hS1 (fun z _ hz => hF z hz) hF (fun u t H2 locs2 ht hvm hw hB hz hk hS2 => ?_)
  obtain ⟨hP2, hD2⟩ := hB
  rw [ht] at hP2
  obtain ⟨hP3, hD3⟩ := tg_join hP1 hD1 hk hF hP2 hD2
  exact h a u hw H2 locs2 ls hP3 hD3 hS2 hl
theorem tg_ret {h0 : Nat} {e0 : va_E} {B : va_W → Prop} (hX : GM X l g d mc ms M h0 e0 B) (hB : B ws) (hc : ce = mc) (hs : sl = ms) (hd : decode M.2.1 pc = .ok (.return_, 1)) : TG X pc L [] ws ce sl := by
  obtain ⟨p, l', e, R, s, m, args, below, meth, c, Z, g0, M0, A⟩ := X
  obtain ⟨⟨rfl, rfl, rfl, hx, hb, hml, ho, hts, hK, hA, hfr, hlo, hce, hsl⟩, hin, hlocks, hr, hAe, rfl⟩ := hX
  intro H locs ls hP hD hS hl
  subst hc
  subst hs
  exact W.vret hx hb hr (fun t ht hW => ⟨⟨ws, rfl, hB, by rw [ht]; exact hP, hD⟩, hS.F ht⟩) hS.2.2 hd hlocks
theorem GM.gc {h0 : Nat} {e0 : va_E} {B : va_W → Prop} (hX : GM X l g d mc ms M h0 e0 B) : GC X l g d mc ms M := hX.1
theorem GM.init {h0 : Nat} {e0 : va_E} {B : va_W → Prop} (hX : GM X l g d mc ms M h0 e0 B) : ∀ p l e R s m args below meth c Z g M A, X = (p, l, e, R, s, m, args, below, meth, c, Z, g, M, A) → meth.name = "<init>" := by
  intro p l e R s m args below meth c Z g M A hE
  subst hE
  exact hX.2.1
end GR
