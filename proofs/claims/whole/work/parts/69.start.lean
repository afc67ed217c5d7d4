/-! THE FIRST STATE: the cells out of the two constructors (written by wip/whole/gen/asm.py) -/
/-- two cells that the machine cannot tell apart: references beyond the length are no matter -/
def ag (e e' : va_E) : Prop := e = e' ∨ ∃ (c : ClassId) (n : Nat) (f f' : Nat → Option Nat), e = .inl (c, n, .inr (.inr (.inr (.inr f)))) ∧ e' = .inl (c, n, .inr (.inr (.inr (.inr f')))) ∧ ∀ j, j < n → f j = f' j
theorem arrV_ag (c : ClassId) (n : Nat) (f f' : Nat → Value) (h : ∀ j, j < n → f j = f' j) : arrV c n f = arrV c n f' := by
  unfold arrV
  congr 1
  apply congrArg
  funext j
  exact h j.1 j.2
theorem ag.at {D : va_G} {cl : List vw_C} {a : Nat} {e e' : va_E} {H : Heap} (h : ag e e') (hP : va_at D cl (a, e) H) : va_at D cl (a, e') H := by
  rcases h with rfl | ⟨c, n, f, f', rfl, rfl, h⟩
  · exact hP
  · have h1 : H[a]? = some (vp_cell c (n, .inr (.inr (.inr (.inr f))))) := hP
    show H[a]? = some (vp_cell c (n, .inr (.inr (.inr (.inr f')))))
    rw [h1, vp_cell_q, vp_cell_q, arrV_ag c n _ _ (fun j hj => by rw [h j hj])]
/-- a list mapped by place, by plain recursion -/
def mapIx (f : Nat → Nat × Nat → Value) : Nat → List (Nat × Nat) → List Value
  | _, [] => []
  | k, d :: l => f k d :: mapIx f (k + 1) l
theorem mapIx_eq : ∀ (l : List (Nat × Nat)) (f : Nat → Nat × Nat → Value) (k : Nat), l.mapIdx (fun i d => f (i + k) d) = mapIx f k l
  | [], _, _ => rfl
  | d :: l, f, k => by
    rw [List.mapIdx_cons]
    show f (0 + k) d :: _ = f k d :: mapIx f (k + 1) l
    rw [Nat.zero_add, ← mapIx_eq l f (k + 1)]
    congr 1
    apply congrArg (fun h => List.mapIdx h l)
    funext i d
    rw [Nat.add_right_comm, Nat.add_assoc]
theorem wcell_o {g : Geo} {sh : Shp} {f : Nat → Int32} {ci : Nat} {fs : List (Nat × Nat)} (h : sh = .inl (ci, fs)) : wcell g sh f = .inr (ci, mapIx (fun k d => fval g f k d) 0 fs) := by
  subst h
  rw [← mapIx_eq]
  rfl
/-- of all numbers below n -/
def AllP : Nat → (Nat → Prop) → Prop
  | 0, _ => True
  | n + 1, P => AllP n P ∧ P n
theorem AllP.at {P : Nat → Prop} : ∀ {n : Nat}, AllP n P → ∀ k, k < n → P k
  | n + 1, h, k, hk => by
    by_cases e : k = n
    · rw [e]
      exact h.2
    · exact AllP.at h.1 k (by omega)
/-- the memory at the start -/
def muS (f17 f73 : Nat → Int32) : Mem := fun i => match i with
  | 17 => f17
  | 73 => f73
  | 11 => fun k => if k = 2 then -1 else 0
  | 13 => fun _ => -1
  | 24 => fun k => if k = 0 then 3 else 0
  | i => if 40 ≤ i ∧ i < 72 ∧ i % 2 = 0 then (fun k => if k = 0 then 3 else 0) else fun _ => 0
abbrev S0 : ST := (3, fun _ => false, [], [], none, fun _ => none, [], [])
theorem CR.start {f17 f73 : Nat → Int32} (h : ∀ t, t < 4 → f17 t = -11) : CR (muS f17 f73) S0 := by
  refine ⟨⟨hok0 (Or.inl rfl), rfl, fun s _ => ?_⟩, ⟨by decide, rfl, 0, by decide, rfl, fun i B hB => by simp at hB⟩, ⟨by decide, rfl, fun i q hq => by simp at hq⟩, rfl, fun t ht => h t ht, ⟨by decide, rfl, fun i b hb => by simp at hb, fun b hb => by cases hb⟩, ⟨by decide, rfl, fun i b hb => by simp at hb⟩⟩
  rw [cW_no]
  rfl
theorem MR.start {f17 f73 : Nat → Int32} (h : ∀ t, t < 4 → f73 t = -1) : MR (muS f17 f73) S0 := by
  have hb : ∀ a, 77 ≤ a → BA (muS f17 f73) a (fun _ => false) := fun a ha s _ => by
    have e : muS f17 f73 a = fun _ => 0 := by
      unfold muS
      split
      all_goals first | omega | skip
      rw [if_neg (by omega)]
    rw [e]
    rfl
  refine ⟨⟨hok0 (Or.inl rfl), rfl, hb 77 (by decide)⟩, ⟨by decide, rfl, fun i C hC => by simp at hC⟩, ⟨by decide, rfl, fun i q hq => by simp at hq, fun j _ => ⟨_, hb _ (by omega)⟩⟩, rfl, fun t ht => h t ht, ⟨by decide, rfl, fun i b hb => by simp at hb, fun b hb => by cases hb⟩, ⟨by decide, rfl, fun i b hb => by simp at hb⟩⟩
def pmL : List Nat := [0, 5, 6, 7, 24, 25, 36, 37, 38, 39, 40, 41, 44, 45, 46, 47, 48, 49, 50, 51, 52, 53, 54, 55, 56, 97, 59, 60, 69, 70, 71, 76, 81, 82, 87, 92, 93, 94, 95, 96, 1, 2, 3, 4, 34, 35, 42, 43, 8, 9, 10, 11, 12, 13, 14, 15, 16, 17, 18, 19, 20, 21, 22, 23, 26, 27, 28, 29, 30, 31, 32, 33, 98, 99, 100, 106, 111, 57, 58, 61, 62, 63, 64, 65, 66, 67, 68, 83, 84, 85, 86, 88, 89, 90, 91, 105, 107, 108, 109, 110, 72, 73, 74, 75, 77, 78, 79, 80, 101, 102, 103, 104]
def pvL : List Nat := [0, 40, 41, 42, 43, 1, 2, 3, 48, 49, 50, 51, 52, 53, 54, 55, 56, 57, 58, 59, 60, 61, 62, 63, 4, 5, 64, 65, 66, 67, 68, 69, 70, 71, 44, 45, 6, 7, 8, 9, 10, 11, 46, 47, 12, 13, 14, 15, 16, 17, 18, 19, 20, 21, 22, 23, 24, 77, 78, 26, 27, 79, 80, 81, 82, 83, 84, 85, 86, 28, 29, 30, 100, 101, 102, 103, 31, 104, 105, 106, 107, 32, 33, 87, 88, 89, 90, 34, 91, 92, 93, 94, 35, 36, 37, 38, 39, 25, 72, 73, 74, 108, 109, 110, 111, 95, 75, 96, 97, 98, 99, 76]
theorem pv_pm : ∀ i, i < 112 → pvL.getD (pmL.getD i 0) 0 = i := by decide +kernel
set_option maxHeartbeats 4000000 in
set_option maxRecDepth 100000 in
theorem start_mem {g : Geo} {H : Heap} {A : Nat → Prop} {h8 h9 : Nat} {w8 w9 : va_W} (h1 : B_X8 g h8 w8) (h2 : B_X9 g h9 w9) (hP : va_P (gD g) vwCl (w8 ++ w9) H) (hD : va_D A (w8 ++ w9)) (lit : Nat → Nat) : ∃ (ad : Nat → Nat) (μ : Mem), ad 0 = h8 ∧ ad 24 = h9 ∧ (∀ i, 112 ≤ i → ad i = lit i) ∧ (∀ i, i < 112 → A (ad i)) ∧ GOK (g.1, g.2.1, ad, g.2.2.2) ∧ va_P (gD g) vwCl (wls (g.1, g.2.1, ad, g.2.2.2) μ) H ∧ CR μ S0 ∧ MR μ S0 := by
  obtain ⟨pb0, pa0_b0, pb1, pa0_b1, pa2, pb3, pa0_b3, pb1_b3, pa0_b1_b3, pb2_b3, pa0_b2_b3, pb3_b3, pa0_b3_b3, pb4_b3, pa0_b4_b3, pb5_b3, pa0_b5_b3, pb6_b3, pa0_b6_b3, pb7_b3, pa0_b7_b3, pb8_b3, pa0_b8_b3, pf9_b3, pb4, pa0_b4, pb1_b4, pa0_b1_b4, pb2_b4, pa0_b2_b4, pb3_b4, pa0_b3_b4, pb4_b4, pa0_b4_b4, pf5_b4, pb5, pa0_b5, pb6, pa0_b6, pa1_b6, pa2_b6, pa3_b6, pb7, pb0_b7, pa0_b0_b7, pa1_b7, pb8, pa0_b8, pb9, pa0_b9, pa1_b9, pf2_b9, pb10, pa0_b10, pa1_b10, pa2_b10, pa3_b10, pa11, rfl, pf0, pf1, pf2, pf3, pf4, pf5, pf6, pf7, pf8, pf9, pf10, pf11, pf12, pf13, pf14, pf15⟩ := h1
  obtain ⟨ma0, ma1, ma2, ma3, mr3, ma4, ma5, ma6, mr6, ma7, mr7, ma8, ma9, mr9, ma10, mr10, ma11, ma12, ma13, ma14, ma15, ma16, ma17, ma18, ma19, mr19, ma20, ma21, mr21, ma22, mf23, rfl, mf0, mf1, mf2, mf3⟩ := h2
  generalize hW : (_ ++ _ : va_W) = W at hP hD
  obtain ⟨ad, hadE⟩ : ∃ ad : Nat → Nat, ad = fun i => if i < 112 then ([h8, pa2, pb3, pa0_b3, pb4, pa0_b4, pb6, pa0_b6, pa1_b6, pa2_b6, pa3_b6, pb7, pa1_b7, pb8, pa0_b8, pb9, pa0_b9, pa1_b9, pb10, pa0_b10, pa1_b10, pa2_b10, pa3_b10, pa11, h9, ma16, ma2, ma3, ma4, ma5, ma6, ma7, ma8, ma9, ma10, ma11, ma12, ma13, ma14, ma15, pb0, pa0_b0, pb1, pa0_b1, pb5, pa0_b5, pb0_b7, pa0_b0_b7, pb1_b3, pa0_b1_b3, pb2_b3, pa0_b2_b3, pb3_b3, pa0_b3_b3, pb4_b3, pa0_b4_b3, pb5_b3, pa0_b5_b3, pb6_b3, pa0_b6_b3, pb7_b3, pa0_b7_b3, pb8_b3, pa0_b8_b3, pb1_b4, pa0_b1_b4, pb2_b4, pa0_b2_b4, pb3_b4, pa0_b3_b4, pb4_b4, pa0_b4_b4, ma17, ma18, ma19, ma21, ma22, ma0, ma1, mr3 0, mr3 1, mr3 2, mr3 3, mr3 4, mr3 5, mr3 6, mr3 7, mr9 0, mr9 1, mr9 2, mr9 3, mr10 0, mr10 1, mr10 2, mr10 3, ma20, mr21 0, mr21 1, mr21 2, mr21 3, mr6 0, mr6 1, mr6 2, mr6 3, mr7 0, mr7 1, mr7 2, mr7 3, mr19 0, mr19 1, mr19 2, mr19 3] : List Nat).getD i 0 else lit i := ⟨_, rfl⟩
  have key0 : AllP 112 (fun k => ∃ e, ([(h8, .inr (8, [.ref pb0, .ref pb1, .ref pa2, .ref pb3, .ref pb4, .ref pb5, .int 0, .int 0, .ref pb6, .ref pb7, .ref pb8, .ref pb9, .ref pb10, .ref pa11, .int 0])), (pb0, .inr (0, [.int 3, .ref pa0_b0])), (pa0_b0, .inl (g.2.2.2 0, 256, .inl (fun _ => 0))), (pb1, .inr (0, [.int 3, .ref pa0_b1])), (pa0_b1, .inl (g.2.2.2 0, 256, .inl (fun _ => 0))), (pa2, .inl (g.2.2.2 0, 256, .inl (fun _ => 0))), (pb3, .inr (2, [.ref pa0_b3, .int 0, .int 0])), (pa0_b3, .inl (g.2.2.2 3, 8, .inr (.inr (.inr (.inr pf9_b3))))), (pb1_b3, .inr (0, [.int 3, .ref pa0_b1_b3])), (pa0_b1_b3, .inl (g.2.2.2 0, 256, .inl (fun _ => 0))), (pb2_b3, .inr (0, [.int 3, .ref pa0_b2_b3])), (pa0_b2_b3, .inl (g.2.2.2 0, 256, .inl (fun _ => 0))), (pb3_b3, .inr (0, [.int 3, .ref pa0_b3_b3])), (pa0_b3_b3, .inl (g.2.2.2 0, 256, .inl (fun _ => 0))), (pb4_b3, .inr (0, [.int 3, .ref pa0_b4_b3])), (pa0_b4_b3, .inl (g.2.2.2 0, 256, .inl (fun _ => 0))), (pb5_b3, .inr (0, [.int 3, .ref pa0_b5_b3])), (pa0_b5_b3, .inl (g.2.2.2 0, 256, .inl (fun _ => 0))), (pb6_b3, .inr (0, [.int 3, .ref pa0_b6_b3])), (pa0_b6_b3, .inl (g.2.2.2 0, 256, .inl (fun _ => 0))), (pb7_b3, .inr (0, [.int 3, .ref pa0_b7_b3])), (pa0_b7_b3, .inl (g.2.2.2 0, 256, .inl (fun _ => 0))), (pb8_b3, .inr (0, [.int 3, .ref pa0_b8_b3])), (pa0_b8_b3, .inl (g.2.2.2 0, 256, .inl (fun _ => 0))), (pb4, .inr (5, [.ref pa0_b4, .int 0])), (pa0_b4, .inl (g.2.2.2 3, 4, .inr (.inr (.inr (.inr pf5_b4))))), (pb1_b4, .inr (0, [.int 3, .ref pa0_b1_b4])), (pa0_b1_b4, .inl (g.2.2.2 0, 256, .inl (fun _ => 0))), (pb2_b4, .inr (0, [.int 3, .ref pa0_b2_b4])), (pa0_b2_b4, .inl (g.2.2.2 0, 256, .inl (fun _ => 0))), (pb3_b4, .inr (0, [.int 3, .ref pa0_b3_b4])), (pa0_b3_b4, .inl (g.2.2.2 0, 256, .inl (fun _ => 0))), (pb4_b4, .inr (0, [.int 3, .ref pa0_b4_b4])), (pa0_b4_b4, .inl (g.2.2.2 0, 256, .inl (fun _ => 0))), (pb5, .inr (0, [.int 3, .ref pa0_b5])), (pa0_b5, .inl (g.2.2.2 0, 256, .inl (fun _ => 0))), (pb6, .inr (7, [.ref pa0_b6, .ref pa1_b6, .ref pa2_b6, .ref pa3_b6, .int 0, .int 0])), (pa0_b6, .inl (g.2.2.2 0, 70, .inl (fun _ => 0))), (pa1_b6, .inl (g.2.2.2 0, 70, .inl (fun _ => 0))), (pa2_b6, .inl (g.2.2.2 0, 70, .inl (fun _ => 0))), (pa3_b6, .inl (g.2.2.2 0, 70, .inl (fun _ => 0))), (pb7, .inr (4, [.ref pb0_b7, .ref pa1_b7, .null, .int 0])), (pb0_b7, .inr (0, [.int 3, .ref pa0_b0_b7])), (pa0_b0_b7, .inl (g.2.2.2 0, 256, .inl (fun _ => 0))), (pa1_b7, .inl (g.2.2.2 0, 3, .inl (fun _ => 0))), (pb8, .inr (1, [.ref pa0_b8, .null, .null])), (pa0_b8, .inl (g.2.2.2 0, 256, .inl (fun _ => 0))), (pb9, .inr (3, [.ref pa0_b9, .ref pa1_b9])), (pa0_b9, .inl (g.2.2.2 0, 160, .inl (fun _ => 0))), (pa1_b9, .inl (g.2.2.2 0, 4, .inl pf2_b9)), (pb10, .inr (6, [.ref pa0_b10, .int 0, .ref pa1_b10, .ref pa2_b10, .ref pa3_b10, .int 0])), (pa0_b10, .inl (g.2.2.2 2, 120, .inl (fun _ => 0))), (pa1_b10, .inl (g.2.2.2 0, 12, .inl (fun _ => 0))), (pa2_b10, .inl (g.2.2.2 0, 12, .inl (fun _ => 0))), (pa3_b10, .inl (g.2.2.2 0, 12, .inl (fun _ => 0))), (pa11, .inl (g.2.2.2 2, 349, .inl (fun _ => 0)))] ++ [(h9, .inr (9, [.int 3, .ref ma0, .ref ma1, .ref ma2, .int 0, .ref ma3, .int 0, .ref ma4, .ref ma5, .ref ma6, .ref ma7, .ref ma8, .ref ma9, .ref ma10, .ref ma11, .int 0, .ref ma12, .ref ma13, .ref ma14, .int 0, .int 0, .int 0, .ref ma15, .ref ma16, .ref ma17, .int 0, .ref ma18, .ref ma19, .int 0, .int 0, .int 0, .ref ma20, .ref ma21, .ref ma22])), (ma0, .inl (g.2.2.2 1, 256, .inl (fun _ => 0))), (ma1, .inl (g.2.2.2 1, 256, .inl (fun _ => 0))), (ma2, .inl (g.2.2.2 0, 256, .inl (fun _ => 0))), (ma3, .inl (g.2.2.2 4, 8, .inr (.inr (.inr (.inr (fun i => if i < 8 then some (mr3 i) else none)))))), (mr3 0, .inl (g.2.2.2 1, 256, .inl (fun _ => 0))), (mr3 1, .inl (g.2.2.2 1, 256, .inl (fun _ => 0))), (mr3 2, .inl (g.2.2.2 1, 256, .inl (fun _ => 0))), (mr3 3, .inl (g.2.2.2 1, 256, .inl (fun _ => 0))), (mr3 4, .inl (g.2.2.2 1, 256, .inl (fun _ => 0))), (mr3 5, .inl (g.2.2.2 1, 256, .inl (fun _ => 0))), (mr3 6, .inl (g.2.2.2 1, 256, .inl (fun _ => 0))), (mr3 7, .inl (g.2.2.2 1, 256, .inl (fun _ => 0))), (ma4, .inl (g.2.2.2 0, 256, .inl (fun _ => 0))), (ma5, .inl (g.2.2.2 0, 256, .inl (fun _ => 0))), (ma6, .inl (g.2.2.2 5, 4, .inr (.inr (.inr (.inr (fun i => if i < 4 then some (mr6 i) else none)))))), (mr6 0, .inl (g.2.2.2 0, 256, .inl (fun _ => 0))), (mr6 1, .inl (g.2.2.2 0, 256, .inl (fun _ => 0))), (mr6 2, .inl (g.2.2.2 0, 256, .inl (fun _ => 0))), (mr6 3, .inl (g.2.2.2 0, 256, .inl (fun _ => 0))), (ma7, .inl (g.2.2.2 5, 4, .inr (.inr (.inr (.inr (fun i => if i < 4 then some (mr7 i) else none)))))), (mr7 0, .inl (g.2.2.2 0, 256, .inl (fun _ => 0))), (mr7 1, .inl (g.2.2.2 0, 256, .inl (fun _ => 0))), (mr7 2, .inl (g.2.2.2 0, 256, .inl (fun _ => 0))), (mr7 3, .inl (g.2.2.2 0, 256, .inl (fun _ => 0))), (ma8, .inl (g.2.2.2 0, 4, .inl (fun _ => 0))), (ma9, .inl (g.2.2.2 4, 4, .inr (.inr (.inr (.inr (fun i => if i < 4 then some (mr9 i) else none)))))), (mr9 0, .inl (g.2.2.2 1, 256, .inl (fun _ => 0))), (mr9 1, .inl (g.2.2.2 1, 256, .inl (fun _ => 0))), (mr9 2, .inl (g.2.2.2 1, 256, .inl (fun _ => 0))), (mr9 3, .inl (g.2.2.2 1, 256, .inl (fun _ => 0))), (ma10, .inl (g.2.2.2 4, 4, .inr (.inr (.inr (.inr (fun i => if i < 4 then some (mr10 i) else none)))))), (mr10 0, .inl (g.2.2.2 1, 256, .inl (fun _ => 0))), (mr10 1, .inl (g.2.2.2 1, 256, .inl (fun _ => 0))), (mr10 2, .inl (g.2.2.2 1, 256, .inl (fun _ => 0))), (mr10 3, .inl (g.2.2.2 1, 256, .inl (fun _ => 0))), (ma11, .inl (g.2.2.2 0, 4, .inl (fun _ => 0))), (ma12, .inl (g.2.2.2 0, 3, .inl (fun _ => 0))), (ma13, .inl (g.2.2.2 0, 8, .inl (fun _ => 0))), (ma14, .inl (g.2.2.2 2, 120, .inl (fun _ => 0))), (ma15, .inl (g.2.2.2 0, 12, .inl (fun _ => 0))), (ma16, .inl (g.2.2.2 0, 12, .inl (fun _ => 0))), (ma17, .inl (g.2.2.2 2, 1280, .inl (fun _ => 0))), (ma18, .inl (g.2.2.2 0, 4, .inl mf23)), (ma19, .inl (g.2.2.2 5, 4, .inr (.inr (.inr (.inr (fun i => if i < 4 then some (mr19 i) else none)))))), (mr19 0, .inl (g.2.2.2 0, 40, .inl (fun _ => 0))), (mr19 1, .inl (g.2.2.2 0, 40, .inl (fun _ => 0))), (mr19 2, .inl (g.2.2.2 0, 40, .inl (fun _ => 0))), (mr19 3, .inl (g.2.2.2 0, 40, .inl (fun _ => 0))), (ma20, .inl (g.2.2.2 1, 256, .inl (fun _ => 0))), (ma21, .inl (g.2.2.2 4, 4, .inr (.inr (.inr (.inr (fun i => if i < 4 then some (mr21 i) else none)))))), (mr21 0, .inl (g.2.2.2 1, 256, .inl (fun _ => 0))), (mr21 1, .inl (g.2.2.2 1, 256, .inl (fun _ => 0))), (mr21 2, .inl (g.2.2.2 1, 256, .inl (fun _ => 0))), (mr21 3, .inl (g.2.2.2 1, 256, .inl (fun _ => 0))), (ma22, .inl (g.2.2.2 0, 4, .inl (fun _ => 0)))] : va_W)[pmL.getD k 0]? = some (([h8, pa2, pb3, pa0_b3, pb4, pa0_b4, pb6, pa0_b6, pa1_b6, pa2_b6, pa3_b6, pb7, pa1_b7, pb8, pa0_b8, pb9, pa0_b9, pa1_b9, pb10, pa0_b10, pa1_b10, pa2_b10, pa3_b10, pa11, h9, ma16, ma2, ma3, ma4, ma5, ma6, ma7, ma8, ma9, ma10, ma11, ma12, ma13, ma14, ma15, pb0, pa0_b0, pb1, pa0_b1, pb5, pa0_b5, pb0_b7, pa0_b0_b7, pb1_b3, pa0_b1_b3, pb2_b3, pa0_b2_b3, pb3_b3, pa0_b3_b3, pb4_b3, pa0_b4_b3, pb5_b3, pa0_b5_b3, pb6_b3, pa0_b6_b3, pb7_b3, pa0_b7_b3, pb8_b3, pa0_b8_b3, pb1_b4, pa0_b1_b4, pb2_b4, pa0_b2_b4, pb3_b4, pa0_b3_b4, pb4_b4, pa0_b4_b4, ma17, ma18, ma19, ma21, ma22, ma0, ma1, mr3 0, mr3 1, mr3 2, mr3 3, mr3 4, mr3 5, mr3 6, mr3 7, mr9 0, mr9 1, mr9 2, mr9 3, mr10 0, mr10 1, mr10 2, mr10 3, ma20, mr21 0, mr21 1, mr21 2, mr21 3, mr6 0, mr6 1, mr6 2, mr6 3, mr7 0, mr7 1, mr7 2, mr7 3, mr19 0, mr19 1, mr19 2, mr19 3] : List Nat).getD k 0, e) ∧ ag e (wcell (g.1, g.2.1, ad, g.2.2.2) (ff_sh k) (muS pf2_b9 mf23 k))) := by
    rw [hadE]
    refine ⟨?_, ⟨_, rfl, Or.inl rfl⟩⟩
    refine ⟨?_, ⟨_, rfl, Or.inl rfl⟩⟩
    refine ⟨?_, ⟨_, rfl, Or.inl rfl⟩⟩
    refine ⟨?_, ⟨_, rfl, Or.inl rfl⟩⟩
    refine ⟨?_, ⟨_, rfl, Or.inl rfl⟩⟩
    refine ⟨?_, ⟨_, rfl, Or.inl rfl⟩⟩
    refine ⟨?_, ⟨_, rfl, Or.inl rfl⟩⟩
    refine ⟨?_, ⟨_, rfl, Or.inl rfl⟩⟩
    refine ⟨?_, ⟨_, rfl, Or.inl rfl⟩⟩
    refine ⟨?_, ⟨_, rfl, Or.inl rfl⟩⟩
    refine ⟨?_, ⟨_, rfl, Or.inl rfl⟩⟩
    refine ⟨?_, ⟨_, rfl, Or.inl rfl⟩⟩
    refine ⟨?_, ⟨_, rfl, Or.inl rfl⟩⟩
    refine ⟨?_, ⟨_, rfl, Or.inl rfl⟩⟩
    refine ⟨?_, ⟨_, rfl, Or.inl rfl⟩⟩
    refine ⟨?_, ⟨_, rfl, Or.inl rfl⟩⟩
    refine ⟨?_, ⟨_, rfl, Or.inl rfl⟩⟩
    refine ⟨?_, ⟨_, rfl, Or.inl rfl⟩⟩
    refine ⟨?_, ⟨_, rfl, Or.inl rfl⟩⟩
    refine ⟨?_, ⟨_, rfl, Or.inl rfl⟩⟩
    refine ⟨?_, ⟨_, rfl, Or.inl rfl⟩⟩
    refine ⟨?_, ⟨_, rfl, Or.inl rfl⟩⟩
    refine ⟨?_, ⟨_, rfl, Or.inl rfl⟩⟩
    refine ⟨?_, ⟨_, rfl, Or.inl rfl⟩⟩
    refine ⟨?_, ⟨_, rfl, Or.inl rfl⟩⟩
    refine ⟨?_, ⟨_, rfl, Or.inl rfl⟩⟩
    refine ⟨?_, ⟨_, rfl, Or.inl rfl⟩⟩
    refine ⟨?_, ⟨_, rfl, Or.inl rfl⟩⟩
    refine ⟨?_, ⟨_, rfl, Or.inl rfl⟩⟩
    refine ⟨?_, ⟨_, rfl, Or.inl rfl⟩⟩
    refine ⟨?_, ⟨_, rfl, Or.inl rfl⟩⟩
    refine ⟨?_, ⟨_, rfl, Or.inl rfl⟩⟩
    refine ⟨?_, ⟨_, rfl, Or.inl rfl⟩⟩
    refine ⟨?_, ⟨_, rfl, Or.inl rfl⟩⟩
    refine ⟨?_, ⟨_, rfl, Or.inl rfl⟩⟩
    refine ⟨?_, ⟨_, rfl, Or.inl rfl⟩⟩
    refine ⟨?_, ⟨_, rfl, Or.inr ⟨_, _, _, _, rfl, rfl, (fun j hj => match j, hj with | 0, _ => rfl | 1, _ => rfl | 2, _ => rfl | 3, _ => rfl)⟩⟩⟩
    refine ⟨?_, ⟨_, rfl, Or.inr ⟨_, _, _, _, rfl, rfl, (fun j hj => match j, hj with | 0, _ => rfl | 1, _ => rfl | 2, _ => rfl | 3, _ => rfl)⟩⟩⟩
    refine ⟨?_, ⟨_, rfl, Or.inl rfl⟩⟩
    refine ⟨?_, ⟨_, rfl, Or.inl rfl⟩⟩
    refine ⟨?_, ⟨_, rfl, Or.inl rfl⟩⟩
    refine ⟨?_, ⟨_, rfl, Or.inl (Eq.symm ((wcell_o rfl).trans rfl))⟩⟩
    refine ⟨?_, ⟨_, rfl, Or.inl rfl⟩⟩
    refine ⟨?_, ⟨_, rfl, Or.inl (Eq.symm ((wcell_o rfl).trans rfl))⟩⟩
    refine ⟨?_, ⟨_, rfl, Or.inl rfl⟩⟩
    refine ⟨?_, ⟨_, rfl, Or.inl (Eq.symm ((wcell_o rfl).trans rfl))⟩⟩
    refine ⟨?_, ⟨_, rfl, Or.inl rfl⟩⟩
    refine ⟨?_, ⟨_, rfl, Or.inl (Eq.symm ((wcell_o rfl).trans rfl))⟩⟩
    refine ⟨?_, ⟨_, rfl, Or.inl rfl⟩⟩
    refine ⟨?_, ⟨_, rfl, Or.inl (Eq.symm ((wcell_o rfl).trans rfl))⟩⟩
    refine ⟨?_, ⟨_, rfl, Or.inl rfl⟩⟩
    refine ⟨?_, ⟨_, rfl, Or.inl (Eq.symm ((wcell_o rfl).trans rfl))⟩⟩
    refine ⟨?_, ⟨_, rfl, Or.inl rfl⟩⟩
    refine ⟨?_, ⟨_, rfl, Or.inl (Eq.symm ((wcell_o rfl).trans rfl))⟩⟩
    refine ⟨?_, ⟨_, rfl, Or.inl rfl⟩⟩
    refine ⟨?_, ⟨_, rfl, Or.inl (Eq.symm ((wcell_o rfl).trans rfl))⟩⟩
    refine ⟨?_, ⟨_, rfl, Or.inl rfl⟩⟩
    refine ⟨?_, ⟨_, rfl, Or.inl (Eq.symm ((wcell_o rfl).trans rfl))⟩⟩
    refine ⟨?_, ⟨_, rfl, Or.inl rfl⟩⟩
    refine ⟨?_, ⟨_, rfl, Or.inl (Eq.symm ((wcell_o rfl).trans rfl))⟩⟩
    refine ⟨?_, ⟨_, rfl, Or.inl rfl⟩⟩
    refine ⟨?_, ⟨_, rfl, Or.inl (Eq.symm ((wcell_o rfl).trans rfl))⟩⟩
    refine ⟨?_, ⟨_, rfl, Or.inl rfl⟩⟩
    refine ⟨?_, ⟨_, rfl, Or.inl (Eq.symm ((wcell_o rfl).trans rfl))⟩⟩
    refine ⟨?_, ⟨_, rfl, Or.inl rfl⟩⟩
    refine ⟨?_, ⟨_, rfl, Or.inl (Eq.symm ((wcell_o rfl).trans rfl))⟩⟩
    refine ⟨?_, ⟨_, rfl, Or.inl rfl⟩⟩
    refine ⟨?_, ⟨_, rfl, Or.inl (Eq.symm ((wcell_o rfl).trans rfl))⟩⟩
    refine ⟨?_, ⟨_, rfl, Or.inl rfl⟩⟩
    refine ⟨?_, ⟨_, rfl, Or.inl (Eq.symm ((wcell_o rfl).trans rfl))⟩⟩
    refine ⟨?_, ⟨_, rfl, Or.inl rfl⟩⟩
    refine ⟨?_, ⟨_, rfl, Or.inl (Eq.symm ((wcell_o rfl).trans rfl))⟩⟩
    refine ⟨?_, ⟨_, rfl, Or.inl rfl⟩⟩
    refine ⟨?_, ⟨_, rfl, Or.inl rfl⟩⟩
    refine ⟨?_, ⟨_, rfl, Or.inl rfl⟩⟩
    refine ⟨?_, ⟨_, rfl, Or.inl rfl⟩⟩
    refine ⟨?_, ⟨_, rfl, Or.inl rfl⟩⟩
    refine ⟨?_, ⟨_, rfl, Or.inr ⟨_, _, _, _, rfl, rfl, (fun j hj => match j, hj with | 0, _ => rfl | 1, _ => rfl | 2, _ => rfl | 3, _ => rfl)⟩⟩⟩
    refine ⟨?_, ⟨_, rfl, Or.inr ⟨_, _, _, _, rfl, rfl, (fun j hj => match j, hj with | 0, _ => rfl | 1, _ => rfl | 2, _ => rfl | 3, _ => rfl)⟩⟩⟩
    refine ⟨?_, ⟨_, rfl, Or.inl rfl⟩⟩
    refine ⟨?_, ⟨_, rfl, Or.inr ⟨_, _, _, _, rfl, rfl, (fun j hj => match j, hj with | 0, _ => rfl | 1, _ => rfl | 2, _ => rfl | 3, _ => rfl)⟩⟩⟩
    refine ⟨?_, ⟨_, rfl, Or.inr ⟨_, _, _, _, rfl, rfl, (fun j hj => match j, hj with | 0, _ => rfl | 1, _ => rfl | 2, _ => rfl | 3, _ => rfl)⟩⟩⟩
    refine ⟨?_, ⟨_, rfl, Or.inl rfl⟩⟩
    refine ⟨?_, ⟨_, rfl, Or.inl rfl⟩⟩
    refine ⟨?_, ⟨_, rfl, Or.inr ⟨_, _, _, _, rfl, rfl, (fun j hj => match j, hj with | 0, _ => rfl | 1, _ => rfl | 2, _ => rfl | 3, _ => rfl | 4, _ => rfl | 5, _ => rfl | 6, _ => rfl | 7, _ => rfl)⟩⟩⟩
    refine ⟨?_, ⟨_, rfl, Or.inl rfl⟩⟩
    refine ⟨?_, ⟨_, rfl, Or.inl rfl⟩⟩
    refine ⟨?_, ⟨_, rfl, Or.inl (Eq.symm ((wcell_o rfl).trans rfl))⟩⟩
    refine ⟨?_, ⟨_, rfl, Or.inl rfl⟩⟩
    refine ⟨?_, ⟨_, rfl, Or.inl rfl⟩⟩
    refine ⟨?_, ⟨_, rfl, Or.inl rfl⟩⟩
    refine ⟨?_, ⟨_, rfl, Or.inl rfl⟩⟩
    refine ⟨?_, ⟨_, rfl, Or.inl rfl⟩⟩
    refine ⟨?_, ⟨_, rfl, Or.inl (Eq.symm ((wcell_o rfl).trans rfl))⟩⟩
    refine ⟨?_, ⟨_, rfl, Or.inl rfl⟩⟩
    refine ⟨?_, ⟨_, rfl, Or.inl rfl⟩⟩
    refine ⟨?_, ⟨_, rfl, Or.inl (Eq.symm ((wcell_o rfl).trans rfl))⟩⟩
    refine ⟨?_, ⟨_, rfl, Or.inl rfl⟩⟩
    refine ⟨?_, ⟨_, rfl, Or.inl (Eq.symm ((wcell_o rfl).trans rfl))⟩⟩
    refine ⟨?_, ⟨_, rfl, Or.inl rfl⟩⟩
    refine ⟨?_, ⟨_, rfl, Or.inl (Eq.symm ((wcell_o rfl).trans rfl))⟩⟩
    refine ⟨?_, ⟨_, rfl, Or.inl rfl⟩⟩
    refine ⟨?_, ⟨_, rfl, Or.inl rfl⟩⟩
    refine ⟨?_, ⟨_, rfl, Or.inl rfl⟩⟩
    refine ⟨?_, ⟨_, rfl, Or.inl rfl⟩⟩
    refine ⟨?_, ⟨_, rfl, Or.inl (Eq.symm ((wcell_o rfl).trans rfl))⟩⟩
    refine ⟨?_, ⟨_, rfl, Or.inr ⟨_, _, _, _, rfl, rfl, (fun j hj => match j, hj with | 0, _ => pf8 | 1, _ => pf9 | 2, _ => pf10 | 3, _ => pf11)⟩⟩⟩
    refine ⟨?_, ⟨_, rfl, Or.inl (Eq.symm ((wcell_o rfl).trans rfl))⟩⟩
    refine ⟨?_, ⟨_, rfl, Or.inr ⟨_, _, _, _, rfl, rfl, (fun j hj => match j, hj with | 0, _ => pf0 | 1, _ => pf1 | 2, _ => pf2 | 3, _ => pf3 | 4, _ => pf4 | 5, _ => pf5 | 6, _ => pf6 | 7, _ => pf7)⟩⟩⟩
    refine ⟨?_, ⟨_, rfl, Or.inl (Eq.symm ((wcell_o rfl).trans rfl))⟩⟩
    refine ⟨?_, ⟨_, rfl, Or.inl rfl⟩⟩
    refine ⟨?_, ⟨_, rfl, Or.inl (Eq.symm ((wcell_o rfl).trans rfl))⟩⟩
    exact trivial
  have key : ∀ k, k < 112 → ∃ e, W[pmL.getD k 0]? = some (ad k, e) ∧ ag e (wcell (g.1, g.2.1, ad, g.2.2.2) (ff_sh k) (muS pf2_b9 mf23 k)) := fun k hk => by
    have h := key0.at k hk
    rw [show ad k = ([h8, pa2, pb3, pa0_b3, pb4, pa0_b4, pb6, pa0_b6, pa1_b6, pa2_b6, pa3_b6, pb7, pa1_b7, pb8, pa0_b8, pb9, pa0_b9, pa1_b9, pb10, pa0_b10, pa1_b10, pa2_b10, pa3_b10, pa11, h9, ma16, ma2, ma3, ma4, ma5, ma6, ma7, ma8, ma9, ma10, ma11, ma12, ma13, ma14, ma15, pb0, pa0_b0, pb1, pa0_b1, pb5, pa0_b5, pb0_b7, pa0_b0_b7, pb1_b3, pa0_b1_b3, pb2_b3, pa0_b2_b3, pb3_b3, pa0_b3_b3, pb4_b3, pa0_b4_b3, pb5_b3, pa0_b5_b3, pb6_b3, pa0_b6_b3, pb7_b3, pa0_b7_b3, pb8_b3, pa0_b8_b3, pb1_b4, pa0_b1_b4, pb2_b4, pa0_b2_b4, pb3_b4, pa0_b3_b4, pb4_b4, pa0_b4_b4, ma17, ma18, ma19, ma21, ma22, ma0, ma1, mr3 0, mr3 1, mr3 2, mr3 3, mr3 4, mr3 5, mr3 6, mr3 7, mr9 0, mr9 1, mr9 2, mr9 3, mr10 0, mr10 1, mr10 2, mr10 3, ma20, mr21 0, mr21 1, mr21 2, mr21 3, mr6 0, mr6 1, mr6 2, mr6 3, mr7 0, mr7 1, mr7 2, mr7 3, mr19 0, mr19 1, mr19 2, mr19 3] : List Nat).getD k 0 by rw [hadE]; exact if_pos hk, ← hW]
    exact h
  have hinj : ∀ i j, i < 112 → j < 112 → ad i = ad j → i = j := fun i j hi hj e => by
    obtain ⟨e1, k1, -⟩ := key i hi
    obtain ⟨e2, k2, -⟩ := key j hj
    have h3 := hD.1 _ _ _ _ k1 k2 e
    rw [← pv_pm i hi, ← pv_pm j hj, h3]
  refine ⟨ad, muS pf2_b9 mf23, by rw [hadE]; rfl, by rw [hadE]; rfl, fun i hi => by rw [hadE]; exact if_neg (by omega), fun i hi => ?_, hinj, fun k q hq => ?_, CR.start (fun t ht => ?_), MR.start (fun t ht => ?_)⟩
  · obtain ⟨e1, k1, -⟩ := key i hi
    exact hD.2 _ _ k1
  · by_cases hk : k < 112
    · rw [wls_at _ _ hk] at hq
      cases hq
      obtain ⟨e1, k1, a1⟩ := key k hk
      exact a1.at (hP _ _ k1)
    · rw [List.getElem?_eq_none (by simp [wls]; omega)] at hq
      cases hq
  · match t, ht with | 0, _ => exact pf12 | 1, _ => exact pf13 | 2, _ => exact pf14 | 3, _ => exact pf15
  · match t, ht with | 0, _ => exact mf0 | 1, _ => exact mf1 | 2, _ => exact mf2 | 3, _ => exact mf3
