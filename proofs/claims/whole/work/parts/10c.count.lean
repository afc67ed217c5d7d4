/-! COUNTING OVER SETS (numbers below 256); a heap is B : Nat → Bool, its bodies have K points -/
def cnt (P : Nat → Bool) : Nat → Nat → Nat
  | 0, _ => 0
  | n + 1, i => (if P i = true then 1 else 0) + cnt P n (i + 1)
theorem cnt_le (P : Nat → Bool) : ∀ n i, cnt P n i ≤ n
  | 0, _ => Nat.le_refl 0
  | n + 1, i => by
    have := cnt_le P n (i + 1)
    simp only [cnt]
    split <;> omega
theorem cnt_congr {P R : Nat → Bool} : ∀ n i, (∀ t, i ≤ t → t < i + n → P t = R t) → cnt P n i = cnt R n i
  | 0, _, _ => rfl
  | n + 1, i, h => by
    simp only [cnt]
    rw [h i (Nat.le_refl i) (by omega), cnt_congr n (i + 1) (fun t h1 h2 => h t (by omega) (by omega))]
theorem cnt_pos {P : Nat → Bool} : ∀ n i, 0 < cnt P n i ↔ ∃ t, i ≤ t ∧ t < i + n ∧ P t = true
  | 0, i => ⟨fun h => absurd h (Nat.lt_irrefl 0), fun ⟨t, h1, h2, _⟩ => by omega⟩
  | n + 1, i => by
    simp only [cnt]
    constructor
    · intro h
      by_cases hp : P i = true
      · exact ⟨i, Nat.le_refl i, by omega, hp⟩
      · rw [if_neg hp] at h
        obtain ⟨t, h1, h2, h3⟩ := (cnt_pos (P := P) n (i + 1)).mp (by omega)
        exact ⟨t, by omega, by omega, h3⟩
    · rintro ⟨t, h1, h2, h3⟩
      by_cases e : t = i
      · rw [e] at h3
        rw [if_pos h3]
        omega
      · have := (cnt_pos (P := P) n (i + 1)).mpr ⟨t, by omega, by omega, h3⟩
        omega
theorem cnt_zero {P : Nat → Bool} {n i : Nat} (h : ∀ t, i ≤ t → t < i + n → P t = false) : cnt P n i = 0 := by
  rcases Nat.eq_zero_or_pos (cnt P n i) with z | z
  · exact z
  · obtain ⟨t, h1, h2, h3⟩ := (cnt_pos n i).mp z
    rw [h t h1 h2] at h3
    cases h3
theorem cnt_add (P : Nat → Bool) : ∀ m n i, cnt P (m + n) i = cnt P m i + cnt P n (i + m)
  | 0, n, i => by simp [cnt]
  | m + 1, n, i => by
    rw [show m + 1 + n = (m + n) + 1 by omega]
    simp only [cnt]
    rw [cnt_add P m n (i + 1), show i + 1 + m = i + (m + 1) by omega]
    omega
theorem cnt_at {P R : Nat → Bool} {b : Nat} (h : ∀ t, t ≠ b → P t = R t) : ∀ n i, i ≤ b → b < i + n → cnt P n i + (if R b = true then 1 else 0) = cnt R n i + (if P b = true then 1 else 0)
  | 0, i, h1, h2 => by omega
  | n + 1, i, h1, h2 => by
    simp only [cnt]
    by_cases e : i = b
    · subst e
      rw [cnt_congr (P := P) (R := R) n (i + 1) (fun t h3 _ => h t (by omega))]
      omega
    · rw [h i e]
      have := cnt_at h n (i + 1) (by omega) (by omega)
      omega
theorem cnt_mono {P R : Nat → Bool} (h : ∀ t, P t = true → R t = true) : ∀ n i, cnt P n i ≤ cnt R n i
  | 0, _ => Nat.le_refl 0
  | n + 1, i => by
    have := cnt_mono h n (i + 1)
    simp only [cnt]
    by_cases hp : P i = true
    · rw [if_pos hp, if_pos (h i hp)]
      omega
    · rw [if_neg hp]
      omega
/-- how many bodies have all of s -/
def cW (B : Nat → Bool) (s : Nat) : Nat := cnt (fun t => B t && decide (t &&& s = s)) 256 0
def tot (B : Nat → Bool) : Nat := cnt B 256 0
/-- a heap of bodies of K points -/
def HOK (K : Nat) (B : Nat → Bool) : Prop := (K = 3 ∨ K = 4) ∧ ∀ s, B s = true → s < 256 ∧ pop s = K
def tog (B : Nat → Bool) (b : Nat) : Nat → Bool := fun s => if s = b then !B s else B s
theorem cW_le (B : Nat → Bool) (s : Nat) : cW B s ≤ 256 := cnt_le _ _ _
theorem cW_0 (B : Nat → Bool) : cW B 0 = tot B := cnt_congr _ _ (fun t _ _ => by simp)
theorem cW_pos {B : Nat → Bool} {s : Nat} : 0 < cW B s ↔ ∃ t, t < 256 ∧ B t = true ∧ t &&& s = s := by
  unfold cW
  rw [cnt_pos]
  constructor
  · rintro ⟨t, -, h2, h3⟩
    rw [Bool.and_eq_true, decide_eq_true_eq] at h3
    exact ⟨t, by omega, h3.1, h3.2⟩
  · rintro ⟨t, h2, h3, h4⟩
    exact ⟨t, by omega, by omega, by rw [Bool.and_eq_true, decide_eq_true_eq]; exact ⟨h3, h4⟩⟩
theorem cW_body {K : Nat} {B : Nat → Bool} (h : HOK K B) {s : Nat} (hs : s < 256) (hp : pop s = K) : cW B s = if B s = true then 1 else 0 := by
  have e : cW B s = cnt (fun t => decide (t = s) && B s) 256 0 := by
    refine cnt_congr _ _ (fun t _ h2 => ?_)
    rw [Bool.eq_iff_iff]
    simp only [Bool.and_eq_true, decide_eq_true_eq]
    constructor
    · rintro ⟨a, b⟩
      have := sub_pop t (h.2 t a).1 s hs b (by rw [(h.2 t a).2, hp])
      exact ⟨this, by rw [← this]; exact a⟩
    · rintro ⟨a, b⟩
      subst a
      exact ⟨b, Nat.and_self _⟩
  rw [e]
  have h2 := cnt_at (P := fun t => decide (t = s) && B s) (R := fun _ => false) (b := s) (fun t ht => by simp [ht]) 256 0 (Nat.zero_le _) (by omega)
  have h3 : cnt (fun _ => false) 256 0 = 0 := cnt_zero (fun _ _ _ => rfl)
  simp only [h3] at h2
  simpa using h2
theorem tog_ok {K : Nat} {B : Nat → Bool} (h : HOK K B) {b : Nat} (hb : b < 256) (hp : pop b = K) : HOK K (tog B b) := by
  refine ⟨h.1, fun s hs => ?_⟩
  by_cases e : s = b
  · subst e
    exact ⟨hb, hp⟩
  · simp only [tog, if_neg e] at hs
    exact h.2 s hs
theorem cW_tog {B : Nat → Bool} {b : Nat} (hb : b < 256) (s : Nat) : cW (tog B b) s = if b &&& s = s then (if B b = true then cW B s - 1 else cW B s + 1) else cW B s := by
  have h := cnt_at (P := fun t => tog B b t && decide (t &&& s = s)) (R := fun t => B t && decide (t &&& s = s)) (b := b) (fun t ht => by simp [tog, ht]) 256 0 (Nat.zero_le _) (by omega)
  have e : tog B b b = !B b := by simp [tog]
  simp only [e] at h
  by_cases hs : b &&& s = s
  · rw [if_pos hs]
    simp only [hs, decide_true, Bool.and_true] at h
    cases hB : B b
    · rw [hB] at h
      simp at h
      simpa [cW] using h
    · rw [hB] at h
      simp at h
      rw [if_pos rfl]
      simp only [cW]
      omega
  · rw [if_neg hs]
    simp only [hs, decide_false, Bool.and_false] at h
    simpa [cW] using h
/-- an option as an answer -/
def onI : Option Nat → Int32
  | some s => nI s
  | none => -5
/-- the i-th place from s on, n at most, where P holds -/
def nth (P : Nat → Bool) : Nat → Nat → Nat → Option Nat
  | 0, _, _ => none
  | n + 1, s, i => if P s = true then (if i = 0 then some s else nth P n (s + 1) (i - 1)) else nth P n (s + 1) i
theorem nth_congr {P R : Nat → Bool} : ∀ n s i, (∀ t, s ≤ t → t < s + n → P t = R t) → nth P n s i = nth R n s i
  | 0, _, _, _ => rfl
  | n + 1, s, i, h => by
    simp only [nth]
    rw [h s (Nat.le_refl s) (by omega), nth_congr n (s + 1) (i - 1) (fun t h1 h2 => h t (by omega) (by omega)), nth_congr n (s + 1) i (fun t h1 h2 => h t (by omega) (by omega))]
/-- which cells stay -/
def frm (l : List Nat) (μ μ' : Mem) : Prop := ∀ i, i ∉ l → μ' i = μ i
theorem frm.rf {l : List Nat} {μ : Mem} : frm l μ μ := fun _ _ => rfl
theorem frm.tr {l : List Nat} {μ ν ρ : Mem} (h1 : frm l μ ν) (h2 : frm l ν ρ) : frm l μ ρ := fun i h => (h2 i h).trans (h1 i h)
theorem frm.mono {l l' : List Nat} {μ ν : Mem} (h : frm l μ ν) (hs : ∀ i ∈ l, i ∈ l') : frm l' μ ν := fun i hi => h i (fun z => hi (hs i z))
theorem frm.set {μ : Mem} {i : Nat} {f : Nat → Int32} : frm [i] μ (mset μ i f) := fun j h => mset_ne (fun e => h (by rw [e]; exact List.mem_singleton.mpr rfl))
/-- heap j of the class holds the bodies B of K points -/
def RC (μ : Mem) (j K : Nat) (B : Nat → Bool) : Prop := HOK K B ∧ μ (40 + 2 * j) 0 = nI K ∧ ∀ s, s < 256 → μ (40 + 2 * j + 1) s = nI (cW B s)
theorem RC.frm {μ μ' : Mem} {l : List Nat} {j K : Nat} {B : Nat → Bool} (h : RC μ j K B) (hf : frm l μ μ') (h1 : 40 + 2 * j ∉ l) (h2 : 40 + 2 * j + 1 ∉ l) : RC μ' j K B := ⟨h.1, by rw [hf _ h1]; exact h.2.1, by rw [hf _ h2]; exact h.2.2⟩
/-- how many sets of n points in a heap: at most the binomials -/
theorem pop3 : cnt (fun s => decide (pop s = 3)) 256 0 = 56 := by decide +kernel
theorem pop4 : cnt (fun s => decide (pop s = 4)) 256 0 = 70 := by decide +kernel
theorem tot_le {K : Nat} {B : Nat → Bool} (h : HOK K B) : tot B ≤ 70 := by
  have h2 : tot B ≤ cnt (fun s => decide (pop s = K)) 256 0 := cnt_mono (fun t ht => by simp [(h.2 t ht).2]) 256 0
  rcases h.1 with e | e <;> rw [e] at h2
  · rw [pop3] at h2
    omega
  · rw [pop4] at h2
    omega

