/-! WHAT HOLDS AT THE LAW'S ENTRY (written by wip/whole/gen/facts.py) -/
/-- the numbers of the cells that are there before: the literals, the rows of digits, the formatter, the script -/
def litf (b tf tm ts : Nat) (adK adV : Nat → Nat) (i : Nat) : Nat := if i = 200 then b else if i = 136 then tf else if i = 137 then tm else if i = 138 then ts else if i % 2 = 0 then adK ((i - 112) / 2) else adV ((i - 113) / 2)
theorem litf_k {b tf tm ts : Nat} {adK adV : Nat → Nat} {w : Nat} (hw : w < 12) : litf b tf tm ts adK adV (112 + 2 * w) = adK w := by
  unfold litf
  rw [if_neg (by omega), if_neg (by omega), if_neg (by omega), if_neg (by omega), if_pos (by omega), show (112 + 2 * w - 112) / 2 = w by omega]
theorem litf_v {b tf tm ts : Nat} {adK adV : Nat → Nat} {w : Nat} (hw : w < 12) : litf b tf tm ts adK adV (113 + 2 * w) = adV w := by
  unfold litf
  rw [if_neg (by omega), if_neg (by omega), if_neg (by omega), if_neg (by omega), if_neg (by omega), show (113 + 2 * w - 113) / 2 = w by omega]
def gvL : List Cond := flatC (Jvm.Cond.and given_1 narrow_1)
abbrev txS (i : Nat) : Term := .string "FaceFlips$Text" (64 + 2 * i)
set_option maxRecDepth 100000 in
theorem g_ex : ∀ i, i < 12 → Cond.exactly (txS i) "java/lang/String" ∈ gvL := by decide +kernel
set_option maxRecDepth 100000 in
theorem g_co : ∀ i, i < 12 → Cond.eq (.field (txS i) "java/lang/String" "coder" "B") (.int 0) ∈ gvL := by decide +kernel
set_option maxRecDepth 100000 in
theorem g_ar : ∀ i, i < 12 → Cond.arrayOf (.field (txS i) "java/lang/String" "value" "[B") .byte ∈ gvL := by decide +kernel
set_option maxRecDepth 100000 in
theorem g_le : ∀ i, i < 12 → Cond.eq (.length (.field (txS i) "java/lang/String" "value" "[B")) (.int (Int32.ofNat (litL.getD i 0))) ∈ gvL := by decide +kernel
set_option maxRecDepth 100000 in
theorem g_el : ∀ i, i < 12 → ∀ j, j < litL.getD i 0 → Cond.eq (.elem (.field (txS i) "java/lang/String" "value" "[B") (.int (Int32.ofNat j))) (.int ((litB.getD i []).getD j 0)) ∈ gvL := by decide +kernel
def posN : List (List Nat) := [[], [58], [69, 70], [78, 79, 80], [90, 91, 92, 93], [103, 104, 105, 106, 107], [117, 118, 119, 120, 121, 122], [131, 132, 133, 134, 135, 136, 137], [146, 147, 148, 149, 150, 151, 152, 153], [162, 163, 164, 165, 166, 167, 168, 169, 170], [179, 180, 181, 182, 183, 184, 185, 186, 187, 188], [197, 198, 199, 200, 201, 202, 203, 204, 205, 206, 207]]
set_option maxRecDepth 100000 in
theorem g_np : ∀ j, j < 12 → ∀ i, i < j → gvL[(posN.getD j []).getD i 0]? = some (Cond.not (Cond.eq (txS i) (txS j))) := by decide +kernel
theorem g_ne (i : Nat) (hi : i < 12) (j : Nat) (hj : j < 12) (hij : i ≠ j) : Cond.not (Cond.eq (txS i) (txS j)) ∈ gvL ∨ Cond.not (Cond.eq (txS j) (txS i)) ∈ gvL := by
  rcases Nat.lt_or_gt_of_ne hij with h | h
  · exact Or.inl (List.mem_of_getElem? (g_np j hj i h))
  · exact Or.inr (List.mem_of_getElem? (g_np i hi j h))
set_option maxRecDepth 100000 in
theorem g_fe : ∀ j, j < 12 → Cond.eq (.elem (.static "FaceFlips" "FEWEST_DIGITS" "[I") (.int (Int32.ofNat j))) (.int (fewD j)) ∈ gvL := by decide +kernel
set_option maxRecDepth 100000 in
theorem g_mo : ∀ j, j < 12 → Cond.eq (.elem (.static "FaceFlips" "MOST_DIGITS" "[I") (.int (Int32.ofNat j))) (.int (mostD j)) ∈ gvL := by decide +kernel
set_option maxRecDepth 100000 in
theorem g_sr : ∀ q ∈ litR, Cond.stringRef q.1 q.2.1 (litT.getD q.2.2 "") ∈ lw_tbl := by decide +kernel
set_option maxRecDepth 100000 in
theorem g_sq : ∀ q ∈ litR, q.2.2 < 12 ∧ ((q.1 = "FaceFlips$Text" ∧ q.2.1 = 64 + 2 * q.2.2) ∨ Cond.eq (txS q.2.2) (.string q.1 q.2.1) ∈ gvL) := by decide +kernel
set_option maxRecDepth 100000 in
theorem g_ns : ∀ w ∈ nestL, w ∈ lw_tbl ∧ w.onTables = true := by decide +kernel
