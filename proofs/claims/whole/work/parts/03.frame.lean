/-! THE FRAME: memory of ints by (cell, place); which cell is what is fixed (ff_sh); a frame's judgement TT over it; a contract CC over it -/
abbrev Mem : Type := Nat → Nat → Int32
def mset (μ : Mem) (i : Nat) (f : Nat → Int32) : Mem := fun j => if j = i then f else μ j
theorem mset_eq {μ : Mem} {i : Nat} {f : Nat → Int32} : mset μ i f i = f := if_pos rfl
theorem mset_ne {μ : Mem} {i j : Nat} {f : Nat → Int32} (h : j ≠ i) : mset μ i f j = μ j := if_neg h
/-- a cell: an object (class, fields: (0, _) an int, (1, r) the cell r for good, (2, _) a cell by its number or null), or an array (type, length, of ints; or of cells for good) -/
abbrev Shp : Type := (Nat × List (Nat × Nat)) ⊕ (Nat × Nat × Option (Nat → Nat))
def ff_shA : Nat → Shp
  | 0 => .inl (8, [(1, 40), (1, 42), (1, 1), (1, 2), (1, 4), (1, 44), (0, 0), (0, 0), (1, 6), (1, 11), (1, 13), (1, 15), (1, 18), (1, 23), (0, 0)])
  | 1 => .inr (0, 256, none)
  | 2 => .inl (2, [(1, 3), (0, 0), (0, 0)])
  | 3 => .inr (3, 8, some (fun j => 48 + 2 * j))
  | 4 => .inl (5, [(1, 5), (0, 0)])
  | 5 => .inr (3, 4, some (fun j => 64 + 2 * j))
  | 6 => .inl (7, [(1, 7), (1, 8), (1, 9), (1, 10), (0, 0), (0, 0)])
  | 7 => .inr (0, 70, none)
  | 8 => .inr (0, 70, none)
  | 9 => .inr (0, 70, none)
  | 10 => .inr (0, 70, none)
  | 11 => .inl (4, [(1, 46), (1, 12), (2, 0), (0, 0)])
  | 12 => .inr (0, 3, none)
  | 13 => .inl (1, [(1, 14), (2, 0), (2, 0)])
  | 14 => .inr (0, 256, none)
  | 15 => .inl (3, [(1, 16), (1, 17)])
  | 16 => .inr (0, 160, none)
  | 17 => .inr (0, 4, none)
  | 18 => .inl (6, [(1, 19), (0, 0), (1, 20), (1, 21), (1, 22), (0, 0)])
  | 19 => .inr (2, 120, none)
  | 20 => .inr (0, 12, none)
  | 21 => .inr (0, 12, none)
  | 22 => .inr (0, 12, none)
  | 23 => .inr (2, 349, none)
  | 24 => .inl (9, [(0, 0), (1, 77), (1, 78), (1, 26), (0, 0), (1, 27), (0, 0), (1, 28), (1, 29), (1, 30), (1, 31), (1, 32), (1, 33), (1, 34), (1, 35), (0, 0), (1, 36), (1, 37), (1, 38), (0, 0), (0, 0), (0, 0), (1, 39), (1, 25), (1, 72), (0, 0), (1, 73), (1, 74), (0, 0), (0, 0), (0, 0), (1, 95), (1, 75), (1, 76)])
  | 25 => .inr (0, 12, none)
  | 26 => .inr (0, 256, none)
  | 27 => .inr (4, 8, some (fun j => 79 + j))
  | 28 => .inr (0, 256, none)
  | 29 => .inr (0, 256, none)
  | 30 => .inr (5, 4, some (fun j => 100 + j))
  | 31 => .inr (5, 4, some (fun j => 104 + j))
  | 32 => .inr (0, 4, none)
  | 33 => .inr (4, 4, some (fun j => 87 + j))
  | 34 => .inr (4, 4, some (fun j => 91 + j))
  | 35 => .inr (0, 4, none)
  | 36 => .inr (0, 3, none)
  | 37 => .inr (0, 8, none)
  | 38 => .inr (2, 120, none)
  | 39 => .inr (0, 12, none)
  | 72 => .inr (2, 1280, none)
  | 73 => .inr (0, 4, none)
  | 74 => .inr (5, 4, some (fun j => 108 + j))
  | 75 => .inr (4, 4, some (fun j => 96 + j))
  | _ => .inr (0, 4, none)
def ff_sh (i : Nat) : Shp := if i < 40 then ff_shA i else if i < 72 then (if i % 2 = 0 then .inl (0, [(0, 0), (1, i + 1)]) else .inr (0, 256, none)) else if i < 77 then ff_shA i else if i < 100 then .inr (1, 256, none) else if i < 108 then .inr (0, 256, none) else .inr (0, 40, none)
theorem sh_ho {j : Nat} (h : j < 16) : ff_sh (40 + 2 * j) = .inl (0, [(0, 0), (1, 40 + 2 * j + 1)]) := by
  unfold ff_sh
  rw [if_neg (by omega), if_pos (by omega), if_pos (by omega)]
theorem sh_hw {j : Nat} (h : j < 16) : ff_sh (40 + 2 * j + 1) = .inr (0, 256, none) := by
  unfold ff_sh
  rw [if_neg (by omega), if_pos (by omega), if_neg (by omega)]
theorem sh_bo {j : Nat} (h : j < 23) : ff_sh (77 + j) = .inr (1, 256, none) := by
  unfold ff_sh
  rw [if_neg (by omega), if_neg (by omega), if_neg (by omega), if_pos (by omega)]
theorem sh_fl {j : Nat} (h : j < 8) : ff_sh (100 + j) = .inr (0, 256, none) := by
  unfold ff_sh
  rw [if_neg (by omega), if_neg (by omega), if_neg (by omega), if_neg (by omega), if_pos (by omega)]
theorem sh_li {j : Nat} : ff_sh (108 + j) = .inr (0, 40, none) := by
  unfold ff_sh
  rw [if_neg (by omega), if_neg (by omega), if_neg (by omega), if_neg (by omega), if_neg (by omega)]
/-- where the cells are: the classes' numbers, their slots, the addresses, the array classes -/
abbrev Geo : Type := (Nat → ClassId) × (Nat → Nat → Nat) × (Nat → Nat) × (Nat → ClassId)
abbrev gD (g : Geo) : va_G := (g.1, g.2.1)
def tv (g : Geo) : Value → Value
  | .ref i => .ref (g.2.2.1 i)
  | v => v
def fval (g : Geo) (f : Nat → Int32) (k : Nat) (d : Nat × Nat) : Value := match d.1 with
  | 0 => .int (f k)
  | 1 => .ref (g.2.2.1 d.2)
  | _ => if f k < 0 then .null else .ref (g.2.2.1 (f k).toNatClampNeg)
def wcell (g : Geo) (sh : Shp) (f : Nat → Int32) : va_E := match sh with
  | .inl (ci, fs) => .inr (ci, fs.mapIdx (fun k d => fval g f k d))
  | .inr (t, n, none) => .inl (g.2.2.2 t, n, .inl f)
  | .inr (t, n, some r) => .inl (g.2.2.2 t, n, .inr (.inr (.inr (.inr (fun j => some (g.2.2.1 (r j)))))))
def wls (g : Geo) (μ : Mem) : va_W := (List.range 112).map (fun i => (g.2.2.1 i, wcell g (ff_sh i) (μ i)))
theorem wls_at (g : Geo) (μ : Mem) {i : Nat} (h : i < 112) : (wls g μ)[i]? = some (g.2.2.1 i, wcell g (ff_sh i) (μ i)) := by
  simp [wls, h]
theorem wls_set (g : Geo) (μ : Mem) {i : Nat} (h : i < 112) (f : Nat → Int32) : (wls g μ).set i (g.2.2.1 i, wcell g (ff_sh i) f) = wls g (mset μ i f) := by
  apply List.ext_getElem?
  intro k
  by_cases hk : k < 112
  · rw [wls_at g _ hk]
    by_cases e : k = i
    · subst e
      rw [List.getElem?_set_self (by simp [wls, h]), mset_eq]
    · rw [List.getElem?_set_ne (Ne.symm e), wls_at g _ hk, mset_ne e]
  · rw [List.getElem?_eq_none (by simp [wls]; omega), List.getElem?_eq_none (by simp [wls]; omega)]
def tyL : List FieldType := [.int, .boolean, .byte, .object "FaceFlips$Heap", .array .boolean, .array .int]
def tysG (g : Geo) : List (ClassId × FieldType) := tyL.mapIdx (fun k t => (g.2.2.2 k, t))
theorem tysG_at {g : Geo} {t : Nat} {ty : FieldType} (h : tyL[t]? = some ty) : (tysG g)[t]? = some (g.2.2.2 t, ty) := by
  simp [tysG, h]
/-- the cells that a frame may change -/
def AA (g : Geo) (sz : Nat) : Nat → Prop := fun q => (∃ i : Nat, i < 112 ∧ q = g.2.2.1 i) ∨ sz ≤ q
def GOK (g : Geo) : Prop := ∀ i j : Nat, i < 112 → j < 112 → g.2.2.1 i = g.2.2.1 j → i = j
theorem wls_D {g : Geo} (hg : GOK g) (μ : Mem) (sz : Nat) : va_D (AA g sz) (wls g μ) := by
  have key : ∀ (k : Nat) (q : Nat × va_E), (wls g μ)[k]? = some q → k < 112 ∧ q.1 = g.2.2.1 k := by
    intro k q h
    by_cases hk : k < 112
    · rw [wls_at g μ hk] at h
      cases h
      exact ⟨hk, rfl⟩
    · rw [List.getElem?_eq_none (by simp [wls]; omega)] at h
      cases h
  refine ⟨fun i j p q hi hj e => ?_, fun k q hk => ?_⟩
  · obtain ⟨h1, h2⟩ := key i p hi
    obtain ⟨h3, h4⟩ := key j q hj
    exact hg i j h1 h3 (by rw [← h2, ← h4, e])
  · obtain ⟨h1, h2⟩ := key k q hk
    exact Or.inl ⟨k, h1, h2⟩
/-- the literals: their texts' bytes -/
def litT : List String := ["nothing", "ball", "sphere", "row", "round", "cross", "three", "four", "flip", "keep", "take", "body"]
def litB : List (List Int32) := [[110, 111, 116, 104, 105, 110, 103], [98, 97, 108, 108], [115, 112, 104, 101, 114, 101], [114, 111, 119], [114, 111, 117, 110, 100], [99, 114, 111, 115, 115], [116, 104, 114, 101, 101], [102, 111, 117, 114], [102, 108, 105, 112], [107, 101, 101, 112], [116, 97, 107, 101], [98, 111, 100, 121]]
def litL : List Nat := litB.map List.length
