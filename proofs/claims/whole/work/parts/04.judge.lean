/-! THE JUDGEMENT OF A FRAME (TT) AND THE CONTRACT OF A METHOD (CC) -/
def nestL : List Cond := [.fieldLinkNest "FaceFlips" 202 "FaceFlips$Past" "known" "I" "FaceFlips", .fieldLinkNest "FaceFlips" 211 "FaceFlips$Shelf" "used" "I" "FaceFlips", .fieldLinkNest "FaceFlips" 221 "FaceFlips$Search" "path" "[I" "FaceFlips", .fieldLinkNest "FaceFlips" 240 "FaceFlips$Text" "size" "I" "FaceFlips", .fieldLinkNest "FaceFlips" 246 "FaceFlips$Text" "words" "I" "FaceFlips", .fieldLinkNest "FaceFlips" 275 "FaceFlips$Text" "word" "[I" "FaceFlips", .fieldLinkNest "FaceFlips" 81 "FaceFlips$Heap" "k" "I" "FaceFlips", .fieldLinkNest "FaceFlips$Names" 15 "FaceFlips$Heap" "k" "I" "FaceFlips", .fieldLinkNest "FaceFlips$Names" 40 "FaceFlips$Heap" "within" "[I" "FaceFlips", .fieldLinkNest "FaceFlips$Search" 45 "FaceFlips$Heap" "within" "[I" "FaceFlips", .fieldLinkNest "FaceFlips$Search" 48 "FaceFlips$Heap" "k" "I" "FaceFlips", .fieldLinkNest "FaceFlips$Text" 40 "FaceFlips" "FEWEST_DIGITS" "[I" "FaceFlips", .fieldLinkNest "FaceFlips$Text" 43 "FaceFlips" "MOST_DIGITS" "[I" "FaceFlips", .fieldLinkNest "FaceFlips$Ways" 24 "FaceFlips$Heap" "k" "I" "FaceFlips"]
def NK (U : State) : Prop := ∀ w ∈ nestL, va_Nw w U
theorem NK.warm {s U : State} (hW : s.WarmedH U.vm) (h : NK s) : NK U := by
  intro w hw
  have h1 := h w hw
  simp only [nestL, List.mem_cons, List.not_mem_nil, or_false] at hw
  rcases hw with rfl | rfl | rfl | rfl | rfl | rfl | rfl | rfl | rfl | rfl | rfl | rfl | rfl | rfl <;> exact va_Nw.warmF hW h1
theorem NK.same {u U : State} (hv : u.vm = U.vm) (h : NK u) : NK U := by
  intro w hw
  have h1 := h w hw
  simp only [nestL, List.mem_cons, List.not_mem_nil, or_false] at hw
  rcases hw with rfl | rfl | rfl | rfl | rfl | rfl | rfl | rfl | rfl | rfl | rfl | rfl | rfl | rfl <;> exact va_Nw.same rfl hv h1
/-- which literal stands at which place of which class -/
def litR : List (String × Nat × Nat) := [("FaceFlips$Text", 64, 0), ("FaceFlips$Text", 66, 1), ("FaceFlips$Text", 68, 2), ("FaceFlips$Text", 70, 3), ("FaceFlips$Text", 72, 4), ("FaceFlips$Text", 74, 5), ("FaceFlips$Text", 76, 6), ("FaceFlips$Text", 78, 7), ("FaceFlips$Text", 80, 8), ("FaceFlips$Text", 82, 9), ("FaceFlips$Text", 84, 10), ("FaceFlips$Text", 86, 11), ("FaceFlipsModel", 246, 0), ("FaceFlipsModel", 248, 1), ("FaceFlipsModel", 250, 2), ("FaceFlipsModel", 252, 3), ("FaceFlipsModel", 253, 4), ("FaceFlipsModel", 255, 5), ("FaceFlipsModel", 257, 6), ("FaceFlipsModel", 259, 7), ("FaceFlipsModel", 261, 9), ("FaceFlipsModel", 263, 8), ("FaceFlipsModel", 265, 10), ("FaceFlipsModel", 267, 11)]
def SK (g : Geo) (U : State) : Prop := ∀ q ∈ litR, vk_R q.1 q.2.1 (litT.getD q.2.2 "") (g.2.2.1 (112 + 2 * q.2.2)) U
/-- what never changes of the tables -/
def KK (g : Geo) (U : State) : Prop := va_K (gD g) vwCl (tysG g) U ∧ NK U ∧ SK g U
theorem KK.warm {g : Geo} {s U : State} (hW : s.WarmedH U.vm) (h : KK g s) : KK g U := ⟨va_K.moved hW.alike h.1, NK.warm hW h.2.1, fun q hq => vk_R.warm hW (h.2.2 q hq)⟩
theorem KK.same {g : Geo} {u U : State} (hv : U.vm = u.vm) (h : KK g u) : KK g U := ⟨va_K.moved (by rw [hv]; exact Vm.Alike.refl u.vm) h.1, NK.same hv.symm h.2.1, fun q hq => vk_R.same hv (h.2.2 q hq)⟩
/-- the rows of digits -/
def fewD (j : Nat) : Int32 := [0, 0, 0, 0, 0, 0, 0, 0, 1, 0, 1, 1].getD j 0
def mostD (j : Nat) : Int32 := [0, 0, 0, 0, 0, 0, 0, 0, 2, 0, 1, 8].getD j 0
/-- the JDK's formatter: null, or a cell -/
def SIO (g : Geo) (A : Nat → Prop) (U : State) (H : Heap) : Prop := va_Z "jdk/internal/util/Preconditions" "SIOOBE_FORMATTER" "Ljava/util/function/BiFunction;" .null A U H ∨ va_Z "jdk/internal/util/Preconditions" "SIOOBE_FORMATTER" "Ljava/util/function/BiFunction;" (.ref (g.2.2.1 138)) A U H
theorem SIO.moved {g : Geo} {A : Nat → Prop} {u U : State} {H : Heap} (hvm : u.vm.Alike U.vm) (h : SIO g A u H) : SIO g A U H := h.elim (fun z => Or.inl (z.moved hvm)) (fun z => Or.inr (z.moved hvm))
theorem SIO.kept {g : Geo} {A : Nat → Prop} {U : State} {H H1 : Heap} (h : SIO g A U H) (hq : ∀ a : Nat, a < H.size → ¬ A a → H1[a]? = H[a]?) : SIO g A U H1 := h.elim (fun z => Or.inl (z.kept hq)) (fun z => Or.inr (z.kept hq))
theorem SIO.narrow {g : Geo} {A B : Nat → Prop} {U : State} {H : Heap} (h : SIO g A U H) (hAB : ∀ q, B q → A q) : SIO g B U H := h.elim (fun z => Or.inl (z.narrow hAB)) (fun z => Or.inr (z.narrow hAB))
/-- what never changes of the heap: the literals, the rows of digits, two numbers of the JDK -/
def SS (g : Geo) (A : Nat → Prop) (U : State) (H : Heap) : Prop := vk_S 12 litL litB (fun w => g.2.2.1 (112 + 2 * w)) (fun w => g.2.2.1 (113 + 2 * w)) A U H ∧ (va_Z "FaceFlips" "FEWEST_DIGITS" "[I" (.ref (g.2.2.1 136)) A U H ∧ va_T .int (g.2.2.1 136) 12 (fun j => .int (fewD j)) A U H) ∧ (va_Z "FaceFlips" "MOST_DIGITS" "[I" (.ref (g.2.2.1 137)) A U H ∧ va_T .int (g.2.2.1 137) 12 (fun j => .int (mostD j)) A U H) ∧ va_Z "java/lang/String" "COMPACT_STRINGS" "Z" (.int 1) A U H ∧ SIO g A U H
theorem SS.moved {g : Geo} {A : Nat → Prop} {u U : State} {H : Heap} (hvm : u.vm.Alike U.vm) (h : SS g A u H) : SS g A U H := ⟨h.1.moved hvm, ⟨h.2.1.1.moved hvm, h.2.1.2.moved hvm⟩, ⟨h.2.2.1.1.moved hvm, h.2.2.1.2.moved hvm⟩, h.2.2.2.1.moved hvm, h.2.2.2.2.moved hvm⟩
theorem SS.kept {g : Geo} {A : Nat → Prop} {U : State} {H H1 : Heap} (h : SS g A U H) (hq : ∀ a : Nat, a < H.size → ¬ A a → H1[a]? = H[a]?) : SS g A U H1 := ⟨h.1.kept hq, ⟨h.2.1.1.kept hq, h.2.1.2.kept hq⟩, ⟨h.2.2.1.1.kept hq, h.2.2.1.2.kept hq⟩, h.2.2.2.1.kept hq, h.2.2.2.2.kept hq⟩
theorem SS.narrow {g : Geo} {A B : Nat → Prop} {U : State} {H : Heap} (h : SS g A U H) (hAB : ∀ q, B q → A q) : SS g B U H := ⟨h.1.narrow hAB, ⟨h.2.1.1.narrow hAB, h.2.1.2.narrow hAB⟩, ⟨h.2.2.1.1.narrow hAB, h.2.2.1.2.narrow hAB⟩, h.2.2.2.1.narrow hAB, h.2.2.2.2.narrow hAB⟩
/-- a method: its name, bytes, locals, answer's type, class -/
abbrev MD : Type := MethodName × ByteArray × Nat × Option FieldType × String
def mws (M : MD) : List Cond := .code M.1 M.2.1 M.2.2.1 M.2.2.2.1 :: wsL_law
def rmd (d : Nat) : Room := { frames := d, cells := 0, slots := 0, locals := 40 * d }
def QQ (g : Geo) (Q : Option Value → Mem → Prop) (A : Nat → Prop) : Array Value → State → Outcome → State → Prop := fun _ st oc t => (∃ (r : Option Value) (μ : Mem), oc = .returned (r.map (tv g)) ∧ Q r μ ∧ va_P (gD g) vwCl (wls g μ) t.heap) ∧ va_F A st t
/-- THE CONTRACT: from any state whose memory is μ, with room for d frames below, the method returns, and Q holds of its answer and the memory then -/
def CC (l : Launch) (d : Nat) (M : MD) (as : List Value) (μ : Mem) (Q : Option Value → Mem → Prop) : Prop :=
  ∀ (g : Geo) (sz : Nat), GOK g → Met l M.1 (mws M) (rmd d) (va_Pc (as.map (tv g)) (fun U => U.heap.size = sz ∧ KK g U ∧ va_P (gD g) vwCl (wls g μ) U.heap ∧ SS g (AA g sz) U U.heap)) (QQ g Q (AA g sz)) 0 0 (AA g sz)
/-- a frame: program, launch, env, room, state at its start, method, arguments, below, method, code, what is wanted, cells, slots used -/
abbrev XT : Type := Program × Launch × Env × Room × State × MethodId × Array Value × List Frame × Method × Code × (State → Prop) × Nat × Nat × Geo × MD × Nat
def okv : Value → Bool
  | .int _ => true
  | .ref _ => true
  | .null => true
  | _ => false
/-- the locals that are told, from place i on (a long stands for 'nothing told') -/
def tl (g : Geo) : Nat → List Value → List (Nat × Value)
  | _, [] => []
  | i, v :: L => if okv v then (i, tv g v) :: tl g (i + 1) L else tl g (i + 1) L
abbrev TTof (p : Program) (l : Launch) (e : Env) (R : Room) (s : State) (m : MethodId) (args : Array Value) (below : List Frame) (meth : Method) (c : Code) (Z : State → Prop) (ce sl : Nat) (g : Geo) (nL : Nat) (pc : Nat) (L S : List Value) (μ : Mem) : Prop :=
  ∀ (H : Heap) (locs : List Loc) (ls : Array Slot), va_P (gD g) vwCl (wls g μ) H → va_S (AA g s.heap.size) s.heap H locs → lv_has ls nL (tl g 0 L) → W p l e R s m args below meth c H locs ce sl Z (F0 m pc ls (S.map (tv g)))
def TT (X : XT) (pc : Nat) (L S : List Value) (μ : Mem) : Prop :=
  match X with | (p, l, e, R, s, m, args, below, meth, c, Z, ce, sl, g, M, _) => TTof p l e R s m args below meth c Z ce sl g M.2.2.1 pc L S μ
/-- what holds of the frame all along; d: how many frames may stand above it -/
def Cx (X : XT) (l0 : Launch) (d : Nat) (M : MD) : Prop :=
  match X with | (p, l, e, R, s, m, args, below, meth, c, Z, ce, sl, g, M', n) => l = l0 ∧ n = 0 ∧ M' = M ∧ p.tables.exec = Jvm.exec ∧ c.code = M.2.1 ∧ c.maxLocals = M.2.2.1 ∧ s.vm.findClass M.2.2.2.2 = some m.cls ∧ (∀ w ∈ wsL_law, w.before args s = true) ∧ KK g s ∧ SS g (AA g s.heap.size) s s.heap ∧ GOK g ∧ d ≤ R.frames ∧ 40 * d ≤ R.locals ∧ ce ≤ R.cells ∧ sl ≤ R.slots
/-- a method's own frame: and what is wanted at its end -/
def Cm (X : XT) (l0 : Launch) (d : Nat) (M : MD) (Q : Option Value → Mem → Prop) : Prop :=
  Cx X l0 d M ∧ match X with | (p, l, e, R, s, m, args, below, meth, c, Z, ce, sl, g, M', n) => meth.locks = false ∧ meth.sig.returnType = M.2.2.2.1 ∧ ce = 0 ∧ sl = 0 ∧ Z = MQ below (QQ g Q (AA g s.heap.size)) args s 0 0 (AA g s.heap.size)
theorem Cm.cx {X : XT} {l0 : Launch} {d : Nat} {M : MD} {Q : Option Value → Mem → Prop} (h : Cm X l0 d M Q) : Cx X l0 d M := h.1
theorem tl_entry (g : Geo) : ∀ (vs : List Value) (i n : Nat), (∀ v ∈ vs, okv v = true) → lv_args i (vs.map (tv g)) = tl g i (vs ++ List.replicate n (.long 0))
  | [], i, 0, _ => rfl
  | [], i, n + 1, h => by
    show [] = tl g i (.long 0 :: List.replicate n (.long 0))
    have := tl_entry g [] (i + 1) n h
    simp only [List.map_nil, List.nil_append] at this
    simp only [tl, okv]
    exact this
  | v :: vs, i, n, h => by
    have hv := h v List.mem_cons_self
    have h2 := fun w hw => h w (List.mem_cons_of_mem v hw)
    have hc : (tv g v).category = 1 := by cases v <;> first | rfl | cases hv
    simp only [List.map_cons, lv_args, List.cons_append, tl, hv, hc, if_true]
    rw [if_neg (by decide), tl_entry g vs (i + 1) n h2]
theorem sl_len (g : Geo) : ∀ (vs : List Value), (∀ v ∈ vs, okv v = true) → (lg_sl (vs.map (tv g))).length = vs.length
  | [], _ => rfl
  | v :: vs, h => by
    have hv := h v List.mem_cons_self
    have hc : (tv g v).category = 1 := by cases v <;> first | rfl | cases hv
    have := sl_len g vs (fun w hw => h w (List.mem_cons_of_mem v hw))
    simp only [lg_sl, List.map_cons, List.flatMap_cons, hc] at this ⊢
    simp [this]
/-- a method's contract out of its frame's judgement -/
theorem CC.of {l : Launch} {d : Nat} {M : MD} {as : List Value} {μ : Mem} {Q : Option Value → Mem → Prop} (hy : plainName M.1.cls = true) (hown : M.1.cls = M.2.2.2.2) (hok : ∀ v ∈ as, okv v = true) (hn : as.length ≤ M.2.2.1)
    (h : ∀ X : XT, Cm X l d M Q → TT X 0 (as ++ List.replicate (M.2.2.1 - as.length) (.long 0)) [] μ) : CC l d M as μ Q := by
  intro g sz hg
  refine Met.ofW (cc := M.2.1) (maxL := M.2.2.1) (ret := M.2.2.2.1) hy rfl ?_
  intro p e s m args below meth c s₁ B hml hv
  obtain ⟨rfl, hsz, hK, hP, hS⟩ := hv
  subst hsz
  have hts := atoms_spec (ws := mws M) B.pre
  have hcl : s.vm.findClass M.2.2.2.2 = some m.cls := by rw [← hown]; exact findClass_of_methodNamed B.named
  have hl := lv_entry (as.map (tv g)) (n := M.2.2.1) (by rw [sl_len g as hok]; exact hn)
  rw [lg_entry_eq]
  generalize (lg_sl (as.map (tv g)) ++ List.replicate (M.2.2.1 - (lg_sl (as.map (tv g))).length) Slot.unset).toArray = ls at hl ⊢
  rw [tl_entry g as 0 (M.2.2.1 - as.length) hok] at hl
  exact h (p, l, e, rmd d, s, m, (as.map (tv g)).toArray, below, meth, c, _, 0, 0, g, M, 0) ⟨⟨rfl, rfl, rfl, B.exec, B.bytes, hml, hcl, fun w hw => hts w (List.mem_cons_of_mem _ hw), hK, hS, hg, Nat.le_refl _, Nat.le_refl _, Nat.le_refl _, Nat.le_refl _⟩, B.notSynchronized, B.returns, rfl, rfl, rfl⟩ s.heap [] ls hP va_S.rf hl
