/-! NAMES: what both searches find -/
theorem rnm_bit {q : Nat → Nat} {s k : Nat} : ∀ p, (rnm q p s).testBit k = true ↔ ∃ i, i < p ∧ s.testBit i = true ∧ q i = k
  | 0 => by
    rw [rnm, Nat.zero_testBit]
    constructor
    · intro h
      cases h
    · rintro ⟨i, h, _⟩
      omega
  | p + 1 => by
    have ih := rnm_bit (q := q) (s := s) (k := k) p
    rw [rnm]
    constructor
    · intro h
      split at h
      · rename_i c
        rw [Nat.testBit_or, Bool.or_eq_true] at h
        rcases h with h | h
        · obtain ⟨i, h1, h2⟩ := ih.mp h
          exact ⟨i, by omega, h2⟩
        · rw [Nat.testBit_two_pow] at h
          exact ⟨p, by omega, c, of_decide_eq_true h⟩
      · obtain ⟨i, h1, h2⟩ := ih.mp h
        exact ⟨i, by omega, h2⟩
    · rintro ⟨i, h1, h2, h3⟩
      by_cases e : i = p
      · subst e
        rw [if_pos h2, Nat.testBit_or, Nat.testBit_two_pow, decide_eq_true h3, Bool.or_true]
      · have := ih.mpr ⟨i, by omega, h2, h3⟩
        split
        · rw [Nat.testBit_or, this]
          rfl
        · exact this
/-- good names of the points below p -/
def NG (q : Nat → Nat) (p : Nat) : Prop := (∀ i, i < p → q i < 8) ∧ ∀ i j, i < p → j < p → q i = q j → i = j
theorem and1_0 {x q : Nat} : (x / 2 ^ q) &&& 1 = 0 ↔ x.testBit q = false := by
  have h1 : (x / 2 ^ q) &&& 1 ≤ 1 := Nat.and_le_right
  have h2 := bit_cut (x := x) (q := q)
  cases e : x.testBit q
  · rw [e] at h2
    simp at h2
    simp
    omega
  · rw [e] at h2
    simp at h2
    simp
    omega
theorem used_bit {q : Nat → Nat} {p v : Nat} : (rnm q p (2 ^ p - 1)).testBit v = true ↔ ∃ i, i < p ∧ q i = v := by
  rw [rnm_bit]
  constructor
  · rintro ⟨i, h1, _, h3⟩
    exact ⟨i, h1, h3⟩
  · rintro ⟨i, h1, h3⟩
    exact ⟨i, h1, by rw [Nat.testBit_two_pow_sub_one]; exact decide_eq_true h1, h3⟩
theorem ng_set {q : Nat → Nat} {p v : Nat} (h : NG q p) (hv : v < 8) (hn : (rnm q p (2 ^ p - 1) / 2 ^ v) &&& 1 = 0) : NG (qset q p v) (p + 1) := by
  have hno : ∀ i, i < p → ¬ q i = v := fun i hi e => by
    have := used_bit.mpr ⟨i, hi, e⟩
    rw [and1_0.mp hn] at this
    cases this
  refine ⟨fun i hi => ?_, fun i j hi hj e => ?_⟩
  · unfold qset
    split
    · exact hv
    · exact h.1 i (by omega)
  · unfold qset at e
    split at e <;> split at e
    · omega
    · exact absurd e.symm (hno j (by omega))
    · exact absurd e (hno i (by omega))
    · exact h.2 i j (by omega) (by omega) e
def EXn (B1 B2 : HP) (p : Nat) (q : Nat → Nat) : Prop := ∃ f : Nat → Nat, (∀ i, i < p → f i = q i) ∧ NG f 8 ∧ ∀ s, s < 256 → B1 s = B2 (rnm f 8 s)
theorem EXn_step {B1 B2 : HP} {p : Nat} {q : Nat → Nat} (hp : p < 8) : EXn B1 B2 p q ↔ ∃ v, v < 8 ∧ (rnm q p (2 ^ p - 1) / 2 ^ v) &&& 1 = 0 ∧ EXn B1 B2 (p + 1) (qset q p v) := by
  constructor
  · rintro ⟨f, h1, h2, h3⟩
    refine ⟨f p, h2.1 p hp, and1_0.mpr ?_, f, fun i hi => ?_, h2, h3⟩
    · cases e : (rnm q p (2 ^ p - 1)).testBit (f p)
      · rfl
      · obtain ⟨i, hi, e2⟩ := used_bit.mp e
        rw [← h1 i hi] at e2
        have := h2.2 i p (by omega) hp e2
        omega
    · unfold qset
      split
      · rename_i e
        rw [e]
      · exact h1 i (by omega)
  · rintro ⟨v, _, _, f, h1, h2, h3⟩
    refine ⟨f, fun i hi => ?_, h2, h3⟩
    have := h1 i (by omega)
    unfold qset at this
    rw [if_neg (by omega)] at this
    exact this
theorem cnt_inj {π : Nat → Nat} : ∀ n i (P : Nat → Bool), (∀ s, i ≤ s → s < i + n → π s < 256) → (∀ s t, i ≤ s → s < i + n → i ≤ t → t < i + n → π s = π t → s = t) → cnt (fun s => P (π s)) n i ≤ cnt P 256 0
  | 0, _, _, _, _ => Nat.zero_le _
  | n + 1, i, P, h1, h2 => by
    have ih := cnt_inj (π := π) n (i + 1) (fun v => P v && !decide (v = π i)) (fun s a b => h1 s (by omega) (by omega)) (fun s t a b c d e => h2 s t (by omega) (by omega) (by omega) (by omega) e)
    have e1 : cnt (fun s => P (π s)) n (i + 1) = cnt (fun s => P (π s) && !decide (π s = π i)) n (i + 1) := cnt_congr _ _ (fun t a b => by
      have : ¬ π t = π i := fun e => by
        have := h2 t i (by omega) (by omega) (Nat.le_refl _) (by omega) e
        omega
      rw [decide_eq_false this]
      simp)
    have e := cnt_at (P := fun v => P v && !decide (v = π i)) (R := P) (b := π i) (fun t ht => by simp [ht]) 256 0 (Nat.zero_le _) (by have := h1 i (Nat.le_refl _) (by omega); omega)
    rw [cnt, e1]
    simp at e
    omega
theorem cnt_not {P : Nat → Bool} : ∀ n i, cnt P n i + cnt (fun s => !P s) n i = n
  | 0, _ => rfl
  | n + 1, i => by
    have ih := cnt_not (P := P) n (i + 1)
    rw [cnt, cnt]
    cases P i <;> simp <;> omega
theorem cnt_bij {π : Nat → Nat} {P : Nat → Bool} (h1 : ∀ s, s < 256 → π s < 256) (h2 : ∀ s t, s < 256 → t < 256 → π s = π t → s = t) : cnt (fun s => P (π s)) 256 0 = cnt P 256 0 := by
  have a1 := cnt_inj (π := π) 256 0 P (fun s _ h => h1 s (by omega)) (fun s t _ a _ b e => h2 s t (by omega) (by omega) e)
  have a2 := cnt_inj (π := π) 256 0 (fun v => !P v) (fun s _ h => h1 s (by omega)) (fun s t _ a _ b e => h2 s t (by omega) (by omega) e)
  have b1 := cnt_not (P := P) 256 0
  have b2 := cnt_not (P := fun s => P (π s)) 256 0
  omega
theorem rnm_at {f : Nat → Nat} (h : NG f 8) {s i : Nat} (hi : i < 8) : (rnm f 8 s).testBit (f i) = s.testBit i := by
  rw [Bool.eq_iff_iff, rnm_bit]
  constructor
  · rintro ⟨j, h1, h2, h3⟩
    rw [← h.2 j i h1 hi h3]
    exact h2
  · intro z
    exact ⟨i, hi, z, rfl⟩
theorem rnm_inj {f : Nat → Nat} (h : NG f 8) {s t : Nat} (hs : s < 256) (ht : t < 256) (e : rnm f 8 s = rnm f 8 t) : s = t := by
  apply Nat.eq_of_testBit_eq
  intro i
  rcases Nat.lt_or_ge i 8 with z | z
  · rw [← rnm_at h z, ← rnm_at h z, e]
  · rw [Nat.testBit_lt_two_pow (Nat.lt_of_lt_of_le (show s < 2 ^ 8 from hs) (Nat.pow_le_pow_right (by decide) z)), Nat.testBit_lt_two_pow (Nat.lt_of_lt_of_le (show t < 2 ^ 8 from ht) (Nat.pow_le_pow_right (by decide) z))]
theorem rnm_sub {f : Nat → Nat} (h : NG f 8) {u t : Nat} (ht : t < 256) : (u &&& t = t) ↔ (rnm f 8 u &&& rnm f 8 t = rnm f 8 t) := by
  rw [sub_bits, sub_bits]
  constructor
  · intro z k hk
    obtain ⟨i, h1, h2, h3⟩ := (rnm_bit 8).mp hk
    exact (rnm_bit 8).mpr ⟨i, h1, z i h2, h3⟩
  · intro z i hi
    have h8 := bit_lt8 ht hi
    have := z (f i) (by rw [rnm_at h h8]; exact hi)
    rw [rnm_at h h8] at this
    exact this
theorem cW_rnm {f : Nat → Nat} (h : NG f 8) {B1 B2 : HP} (hB : ∀ s, s < 256 → B1 s = B2 (rnm f 8 s)) {t : Nat} (ht : t < 256) : cW B1 t = cW B2 (rnm f 8 t) := by
  have e : cW B1 t = cnt (fun u => (fun v => B2 v && decide (v &&& rnm f 8 t = rnm f 8 t)) (rnm f 8 u)) 256 0 := cnt_congr _ _ (fun u _ hu => by
    have h1 := hB u (by omega)
    have h2 : decide (u &&& t = t) = decide (rnm f 8 u &&& rnm f 8 t = rnm f 8 t) := decide_eq_decide.mpr (rnm_sub h ht)
    rw [h1, h2])
  rw [e]
  exact cnt_bij (π := rnm f 8) (P := fun v => B2 v && decide (v &&& rnm f 8 t = rnm f 8 t)) (fun s _ => rnm_lt 8 s h.1) (fun s t hs ht e => rnm_inj h hs ht e)
theorem p2_pop : ∀ k, k < 8 → pop (2 ^ k) = 1 := by decide
theorem pop_rnm {f : Nat → Nat} (h : NG f 8) {s : Nat} (hs : s < 256) : pop (rnm f 8 s) = pop s := by
  have key : ∀ p, p ≤ 8 → pop (rnm f p s) = popn s p := by
    intro p
    induction p with
    | zero =>
      intro _
      rw [rnm, popn]
      decide
    | succ p ih =>
      intro hp
      have ih := ih (by omega)
      have hb := bit_cut (x := s) (q := p)
      rw [rnm, popn]
      by_cases c : s.testBit p = true
      · rw [if_pos c, if_pos (hb.mpr c), pop_or _ (rnm_lt p s (fun i hi => h.1 i (by omega))) _ (p2_lt (h.1 p (by omega))) ?_, ih, p2_pop _ (h.1 p (by omega))]
        refine no_p2.mpr ?_
        cases e : (rnm f p s).testBit (f p)
        · rfl
        · obtain ⟨i, h1, _, h3⟩ := (rnm_bit p).mp e
          have := h.2 i p (by omega) (by omega) h3
          omega
      · rw [if_neg c, if_neg (fun z => c (hb.mp z)), ih, Nat.add_zero]
  rw [key 8 (Nat.le_refl _), popn8 s hs]
theorem rnm_tr {q : Nat → Nat} {p s : Nat} (hs : s < 2 ^ p) : ∀ n, rnm q (p + n) s = rnm q p s
  | 0 => rfl
  | n + 1 => by
    rw [← Nat.add_assoc, rnm, if_neg (by rw [Nat.testBit_lt_two_pow (Nat.lt_of_lt_of_le hs (Nat.pow_le_pow_right (by decide) (by omega)))]; exact Bool.false_ne_true)]
    exact rnm_tr hs n
theorem rnm_tr8 {q : Nat → Nat} {p s : Nat} (hp : p ≤ 8) (hs : s < 2 ^ p) : rnm q 8 s = rnm q p s := by
  have := rnm_tr (q := q) hs (8 - p)
  rw [show p + (8 - p) = 8 by omega] at this
  exact this
theorem allB_iff {P : Nat → Bool} : ∀ n i, allB P n i = true ↔ ∀ t, i ≤ t → t < i + n → P t = true
  | 0, i => by
    constructor
    · intro _ t h1 h2
      omega
    · intro _
      rfl
  | n + 1, i => by
    rw [allB, Bool.and_eq_true, allB_iff n (i + 1)]
    constructor
    · rintro ⟨h1, h2⟩ t h3 h4
      by_cases e : t = i
      · rw [e]
        exact h1
      · exact h2 t (by omega) (by omega)
    · intro h
      exact ⟨h i (Nat.le_refl _) (by omega), fun t h1 h2 => h t (by omega) (by omega)⟩
theorem nmv_iff {rest : (Nat → Nat) → Bool} {B1 B2 : HP} {p : Nat} {q : Nat → Nat} : ∀ m v, nmv rest B1 B2 p q m v = true ↔ ∃ w, v ≤ w ∧ w < v + m ∧ (rnm q p (2 ^ p - 1) / 2 ^ w) &&& 1 = 0 ∧ agr B1 B2 q p w = true ∧ rest (qset q p w) = true
  | 0, v => by
    constructor
    · intro h
      cases h
    · rintro ⟨w, h1, h2, _⟩
      omega
  | m + 1, v => by
    rw [nmv, Bool.or_eq_true, nmv_iff m (v + 1), Bool.and_eq_true, Bool.and_eq_true, decide_eq_true_eq]
    constructor
    · rintro (⟨⟨h1, h2⟩, h3⟩ | ⟨w, h1, h2, h3⟩)
      · exact ⟨v, Nat.le_refl _, by omega, h1, h2, h3⟩
      · exact ⟨w, by omega, by omega, h3⟩
    · rintro ⟨w, h1, h2, h3, h4, h5⟩
      by_cases e : w = v
      · subst e
        exact Or.inl ⟨⟨h3, h4⟩, h5⟩
      · exact Or.inr ⟨w, by omega, by omega, h3, h4, h5⟩
theorem split_p2 {p s : Nat} (h : s < 2 ^ (p + 1)) (h2 : ¬ s < 2 ^ p) : ∃ t, t < 2 ^ p ∧ s = t + 2 ^ p := ⟨s - 2 ^ p, by rw [Nat.pow_succ] at h; omega, by omega⟩
theorem nms_EX {K : Nat} {B1 B2 : HP} (hK1 : HOK K B1) (hK2 : HOK K B2) : ∀ n p (q : Nat → Nat), p + n = 8 → NG q p → (∀ s, s < 2 ^ p → cW B1 s = cW B2 (rnm q p s)) → (nms B1 B2 n p q = true ↔ EXn B1 B2 p q)
  | 0, p, q, hp, hq, hw => by
    have hp : p = 8 := by omega
    subst hp
    constructor
    · intro _
      refine ⟨q, fun _ _ => rfl, hq, fun s hs => ?_⟩
      have hpr := pop_rnm hq hs
      have hlt := rnm_lt 8 s hq.1
      by_cases c : pop s = K
      · have h1 := cW_body hK1 hs c
        have h2 := cW_body hK2 hlt (by rw [hpr]; exact c)
        have h3 := hw s hs
        rw [h1, h2] at h3
        cases e1 : B1 s <;> cases e2 : B2 (rnm q 8 s) <;> rw [e1, e2] at h3 <;> simp at h3 <;> rfl
      · have e1 : B1 s = false := by
          cases e : B1 s
          · rfl
          · exact absurd (hK1.2 s e).2 c
        have e2 : B2 (rnm q 8 s) = false := by
          cases e : B2 (rnm q 8 s)
          · rfl
          · exact absurd (by rw [← hpr]; exact (hK2.2 _ e).2) c
        rw [e1, e2]
    · intro _
      rfl
  | n + 1, p, q, hp, hq, hw => by
    rw [nms, nmv_iff, EXn_step (by omega)]
    have h28 : 2 ^ p < 256 := p2_lt (by omega)
    constructor
    · rintro ⟨v, _, h2, h3, h4, h5⟩
      refine ⟨v, by omega, h3, (nms_EX hK1 hK2 n (p + 1) (qset q p v) (by omega) (ng_set hq (by omega) h3) (fun s hs => ?_)).mp h5⟩
      by_cases c : s < 2 ^ p
      · rw [rnm_lo c]
        exact hw s c
      · obtain ⟨t, ht, rfl⟩ := split_p2 hs c
        rw [rnm_hi (by omega) ht]
        have := (allB_iff _ _).mp h4 t (Nat.zero_le _) (by omega)
        rw [(orp p (by omega) t ht).1] at this
        exact of_decide_eq_true this
    · rintro ⟨v, h2, h3, h4⟩
      have hag : agr B1 B2 q p v = true := by
        obtain ⟨f, f1, f2, f3⟩ := h4
        refine (allB_iff _ _).mpr (fun t _ ht => decide_eq_true ?_)
        rw [Nat.zero_add] at ht
        have ho := orp p (by omega) t ht
        have h5 := cW_rnm f2 f3 (t := t + 2 ^ p) ho.2
        have h6 : t + 2 ^ p < 2 ^ (p + 1) := by
          rw [Nat.pow_succ]
          omega
        rw [ho.1, h5, rnm_tr8 (by omega) h6, rnm_congr (q' := qset q p v) (p + 1) _ _ (fun i hi => ⟨f1 i hi, rfl⟩), rnm_hi (by omega) ht]
      refine ⟨v, Nat.zero_le _, by omega, h3, hag, (nms_EX hK1 hK2 n (p + 1) (qset q p v) (by omega) (ng_set hq h2 h3) (fun s hs => ?_)).mpr h4⟩
      by_cases c : s < 2 ^ p
      · rw [rnm_lo c]
        exact hw s c
      · obtain ⟨t, ht, rfl⟩ := split_p2 hs c
        rw [rnm_hi (by omega) ht]
        have := (allB_iff _ _).mp hag t (Nat.zero_le _) (by omega)
        rw [(orp p (by omega) t ht).1] at this
        exact of_decide_eq_true this
/-- the model's search -/
def nok (B1 B2 : HP) (q : Nat → Nat) (p : Nat) : Nat → Nat → Bool
  | 0, _ => true
  | n + 1, s => (!(decide (s / 2 ^ p = 0) && !decide (s / 2 ^ (p - 1) = 0)) || (B1 s == B2 (rnm q p s))) && nok B1 B2 q p n (s + 1)
def nwOK (B1 B2 : HP) (p : Nat) (q : Nat → Nat) : Bool := if p = 0 then true else nok B1 B2 q p (2 ^ p - 1) 1
def cnv (rest : (Nat → Nat) → Nat → Bool) (p : Nat) (q : Nat → Nat) (used : Nat) : Nat → Nat → Bool
  | 0, _ => false
  | m + 1, v => (decide (used / 2 ^ v &&& 1 = 0) && rest (qset q p v) (used ||| 2 ^ v)) || cnv rest p q used m (v + 1)
def cnm (B1 B2 : HP) : Nat → Nat → (Nat → Nat) → Nat → Bool
  | 0, p, q, _ => nwOK B1 B2 p q
  | n + 1, p, q, used => nwOK B1 B2 p q && cnv (cnm B1 B2 n (p + 1)) p q used 8 0
theorem nok_iff {B1 B2 : HP} {q : Nat → Nat} {p : Nat} : ∀ n s, nok B1 B2 q p n s = true ↔ ∀ t, s ≤ t → t < s + n → t / 2 ^ p = 0 → ¬ t / 2 ^ (p - 1) = 0 → B1 t = B2 (rnm q p t)
  | 0, s => by
    constructor
    · intro _ t h1 h2
      omega
    · intro _
      rfl
  | n + 1, s => by
    rw [nok, Bool.and_eq_true, nok_iff n (s + 1)]
    simp only [Bool.or_eq_true, Bool.not_eq_true', Bool.and_eq_false_iff, decide_eq_false_iff_not, beq_iff_eq, Bool.not_eq_false', decide_eq_true_eq]
    constructor
    · rintro ⟨h1, h2⟩ t h3 h4 h5 h6
      by_cases e : t = s
      · subst e
        rcases h1 with (z | z) | z
        · exact absurd h5 z
        · exact absurd z h6
        · exact z
      · exact h2 t (by omega) (by omega) h5 h6
    · intro h
      refine ⟨?_, fun t h1 h2 => h t (by omega) (by omega)⟩
      by_cases c : s / 2 ^ p = 0
      · by_cases d : s / 2 ^ (p - 1) = 0
        · exact Or.inl (Or.inr d)
        · exact Or.inr (h s (Nat.le_refl _) (by omega) c d)
      · exact Or.inl (Or.inl c)
theorem cnv_iff {rest : (Nat → Nat) → Nat → Bool} {p : Nat} {q : Nat → Nat} {used : Nat} : ∀ m v, cnv rest p q used m v = true ↔ ∃ w, v ≤ w ∧ w < v + m ∧ (used / 2 ^ w) &&& 1 = 0 ∧ rest (qset q p w) (used ||| 2 ^ w) = true
  | 0, v => by
    constructor
    · intro h
      cases h
    · rintro ⟨w, h1, h2, _⟩
      omega
  | m + 1, v => by
    rw [cnv, Bool.or_eq_true, cnv_iff m (v + 1), Bool.and_eq_true, decide_eq_true_eq]
    constructor
    · rintro (⟨h1, h2⟩ | ⟨w, h1, h2, h3⟩)
      · exact ⟨v, Nat.le_refl _, by omega, h1, h2⟩
      · exact ⟨w, by omega, by omega, h3⟩
    · rintro ⟨w, h1, h2, h3, h4⟩
      by_cases e : w = v
      · subst e
        exact Or.inl ⟨h3, h4⟩
      · exact Or.inr ⟨w, by omega, by omega, h3, h4⟩
theorem div_p2 {s p : Nat} : s / 2 ^ p = 0 ↔ s < 2 ^ p := by
  have h := Nat.two_pow_pos p
  constructor
  · intro z
    rcases Nat.lt_or_ge s (2 ^ p) with c | c
    · exact c
    · have := Nat.div_pos c h
      omega
  · intro z
    exact Nat.div_eq_of_lt z
theorem nwOK_iff {B1 B2 : HP} {q : Nat → Nat} {p : Nat} (hpre : ∀ s, s < 2 ^ (p - 1) → B1 s = B2 (rnm q p s)) : nwOK B1 B2 p q = true ↔ ∀ s, s < 2 ^ p → B1 s = B2 (rnm q p s) := by
  unfold nwOK
  by_cases c : p = 0
  · subst c
    rw [if_pos rfl]
    exact ⟨fun _ => hpre, fun _ => rfl⟩
  · rw [if_neg c, nok_iff]
    have h2 := Nat.two_pow_pos p
    constructor
    · intro h s hs
      by_cases d : s < 2 ^ (p - 1)
      · exact hpre s d
      · have h1 := Nat.two_pow_pos (p - 1)
        exact h s (by omega) (by omega) (div_p2.mpr hs) (fun z => d (div_p2.mp z))
    · intro h t h1 h3 h4 _
      exact h t (div_p2.mp h4)
theorem cnm_EX {B1 B2 : HP} : ∀ n p (q : Nat → Nat), p + n = 8 → NG q p → (∀ s, s < 2 ^ (p - 1) → B1 s = B2 (rnm q p s)) → (cnm B1 B2 n p q (rnm q p (2 ^ p - 1)) = true ↔ EXn B1 B2 p q)
  | 0, p, q, hp, hq, hpre => by
    have hp : p = 8 := by omega
    subst hp
    rw [cnm, nwOK_iff hpre]
    constructor
    · intro h
      exact ⟨q, fun _ _ => rfl, hq, h⟩
    · rintro ⟨f, f1, f2, f3⟩ s hs
      rw [f3 s hs, rnm_congr (q' := q) 8 s s (fun i hi => ⟨f1 i hi, rfl⟩)]
  | n + 1, p, q, hp, hq, hpre => by
    rw [cnm, Bool.and_eq_true, nwOK_iff hpre, cnv_iff, EXn_step (by omega)]
    have h2p := Nat.two_pow_pos p
    have hu : ∀ v, rnm q p (2 ^ p - 1) ||| 2 ^ v = rnm (qset q p v) (p + 1) (2 ^ (p + 1) - 1) := by
      intro v
      rw [← rnm_hi (by omega) (show 2 ^ p - 1 < 2 ^ p by omega), show 2 ^ p - 1 + 2 ^ p = 2 ^ (p + 1) - 1 by rw [Nat.pow_succ]; omega]
    have hpre2 : (∀ s, s < 2 ^ p → B1 s = B2 (rnm q p s)) → ∀ v s, s < 2 ^ (p + 1 - 1) → B1 s = B2 (rnm (qset q p v) (p + 1) s) := by
      intro h v s hs
      rw [show p + 1 - 1 = p by omega] at hs
      rw [rnm_lo hs]
      exact h s hs
    constructor
    · rintro ⟨h1, v, _, h2, h3, h4⟩
      refine ⟨v, by omega, h3, ?_⟩
      rw [hu] at h4
      exact (cnm_EX n (p + 1) (qset q p v) (by omega) (ng_set hq (by omega) h3) (hpre2 h1 v)).mp h4
    · rintro ⟨v, h2, h3, h4⟩
      have h1 : ∀ s, s < 2 ^ p → B1 s = B2 (rnm q p s) := by
        obtain ⟨f, f1, f2, f3⟩ := h4
        intro s hs
        have h256 : 2 ^ p < 256 := p2_lt (by omega)
        have h8 : s < 2 ^ (p + 1) := by
          rw [Nat.pow_succ]
          omega
        rw [f3 s (by omega), rnm_tr8 (by omega) h8, rnm_congr (q' := qset q p v) (p + 1) s s (fun i hi => ⟨f1 i hi, rfl⟩), rnm_lo hs]
      refine ⟨h1, v, Nat.zero_le _, by omega, h3, ?_⟩
      rw [hu]
      exact (cnm_EX n (p + 1) (qset q p v) (by omega) (ng_set hq h2 h3) (hpre2 h1 v)).mpr h4
theorem alk_cnm {K : Nat} {B1 B2 : HP} (hK1 : HOK K B1) (hK2 : HOK K B2) (ht : tot B1 = tot B2) (q : Nat → Nat) : nms B1 B2 8 0 (fun _ => 0) = cnm B1 B2 8 0 q 0 := by
  have ng : ∀ q : Nat → Nat, NG q 0 := fun q => ⟨fun i hi => by omega, fun i j hi => by omega⟩
  have h1 := nms_EX hK1 hK2 8 0 (fun _ => 0) rfl (ng _) (fun s hs => by
    have : s = 0 := by omega
    rw [this, rnm, cW_0, cW_0, ht])
  have h2 := cnm_EX (B1 := B1) (B2 := B2) 8 0 q rfl (ng _) (fun s hs => by
    have : s = 0 := by omega
    rw [this, rnm, h0no hK1, h0no hK2])
  have h3 : EXn B1 B2 0 (fun _ => 0) ↔ EXn B1 B2 0 q := by
    constructor
    · rintro ⟨f, _, f2⟩
      exact ⟨f, fun i hi => by omega, f2⟩
    · rintro ⟨f, _, f2⟩
      exact ⟨f, fun i hi => by omega, f2⟩
  rw [Bool.eq_iff_iff, h1, h3]
  exact h2.symm
