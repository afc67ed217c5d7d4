/-! PURE: sets as numbers, by cases -/
/-- how many of the ten least bits are set -/
def pop (n : Nat) : Nat := (List.range 10).foldl (fun a i => a + n / 2 ^ i % 2) 0
theorem sub_pop : ∀ t, t < 256 → ∀ s, s < 256 → t &&& s = s → pop t = pop s → t = s := by decide +kernel
theorem pop_le : ∀ s, s < 256 → pop s ≤ 8 := by decide +kernel
theorem pop_mono : ∀ t, t < 256 → ∀ s, s < 256 → t &&& s = s → pop s ≤ pop t := by decide +kernel
theorem pop_or : ∀ t, t < 256 → ∀ s, s < 256 → t &&& s = 0 → pop (t ||| s) = pop t + pop s := by decide +kernel
def nxs (b s : Nat) : Nat := if s = 0 then b else (s - 1) &&& b
def sbs (b : Nat) : Nat → Nat → List Nat
  | 0, _ => []
  | n + 1, s => s :: sbs b n (nxs b s)
theorem sbs3 : ∀ b, b < 256 → pop b = 3 → (sbs b 8 b).Nodup ∧ ∀ s, s < 256 → (s ∈ sbs b 8 b ↔ b &&& s = s) := by decide +kernel
theorem sbs4 : ∀ b, b < 256 → pop b = 4 → (sbs b 16 b).Nodup ∧ ∀ s, s < 256 → (s ∈ sbs b 16 b ↔ b &&& s = s) := by decide +kernel
