/-! THE MODEL: what a face is flipped for; flips done -/
def fst8 (f : Nat) : Nat → Nat → Nat
  | 0, p => p
  | n + 1, p => if (f / 2 ^ p) &&& 1 = 1 then fst8 f n (p + 1) else p
theorem fst8_low : ∀ f, f < 256 → (if fst8 f 8 0 < 8 then 2 ^ fst8 f 8 0 else 0) = lowb (255 ^^^ (255 &&& f)) := by decide +kernel
theorem prt_non {K : Nat} {B : HP} {a : Nat} (h : ¬ 0 < cW B a) : prt K B a = 0 := by
  unfold prt
  rw [if_pos (by omega)]
theorem prt_top {K : Nat} {B : HP} (h : HOK K B) {a : Nat} (h0 : 0 < a) (ha : a < 256) (hp0 : 0 < cW B a) (hk : pop a = K) : prt K B a = if fst8 (lkP B 0) 8 0 < 8 then 2 ^ fst8 (lkP B 0) 8 0 else 0 := by
  have h1 := cW_body h ha hk
  have h2 : cW B a = 1 := by
    rw [h1] at hp0 ⊢
    split at hp0
    · rename_i z
      rw [if_pos z]
    · exact absurd hp0 (by decide)
  unfold prt
  rw [if_neg (by omega), if_pos hk, fst8_low _ (lkP_lt B 0)]
theorem prt_low {K : Nat} {B : HP} (h : HOK K B) {a : Nat} (h0 : 0 < a) (ha : a < 256) (hp0 : 0 < cW B a) (hk : ¬ pop a = K) : prt K B a = if pop a + pop (lkP B a) = K + 1 ∧ (decide (0 < lkP B a) && decide (0 < cW B (lkP B a))) = false ∧ lkS B a = 2 ^ pop (lkP B a) - 1 then lkP B a else 0 := by
  have hm := prt_mod h h0 ha hp0 hk
  have hle := cW_popK h ha hp0
  have hb := lkP_lt B a
  unfold prt
  by_cases c : pop a + pop (lkP B a) = K + 1 ∧ cW B (lkP B a) = 0 ∧ lkS B a = 2 ^ pop (lkP B a) - 1
  · have d := hm.mp c
    rw [if_neg (by omega), if_neg hk, if_pos d.2, if_pos ⟨c.1, by rw [c.2.1]; simp, c.2.2⟩]
  · have hpos : pop a + pop (lkP B a) = K + 1 → 0 < lkP B a := fun z => pop_pos _ hb (by omega)
    rw [if_neg (c := pop a + pop (lkP B a) = K + 1 ∧ _ ∧ _) (fun z => c ⟨z.1, by
      have := hpos z.1
      have z2 := z.2.1
      simp [this] at z2
      exact z2, z.2.2⟩)]
    split
    · rfl
    · rename_i q
      rw [if_neg (fun z => c (hm.mpr ⟨by omega, z⟩))]
theorem sub1 {pts s : Nat} (hp : pts < 256) (hs : s < 256) : (∃ q, q < 8 ∧ (pts / 2 ^ q) &&& 1 = 1 ∧ s = pts ^^^ (pts &&& 2 ^ q)) ↔ (s &&& pts = s ∧ pop s + 1 = pop pts) := by
  constructor
  · rintro ⟨q, h1, h2, h3⟩
    obtain ⟨l1, l2⟩ := less1 pts hp q h1 h2
    subst h3
    refine ⟨?_, l1⟩
    rw [Nat.and_comm]
    refine sub_bits.mpr (fun i hi => ?_)
    rw [cut_test, Bool.and_eq_true] at hi
    exact hi.1
  · rintro ⟨h2, h3⟩
    rw [Nat.and_comm] at h2
    have h2' := sub_bits.mp h2
    have hx : ∃ p, pts.testBit p = true ∧ s.testBit p = false := by
      apply Classical.byContradiction
      intro hno
      have : s = pts := by
        apply Nat.eq_of_testBit_eq
        intro i
        cases e : s.testBit i
        · cases e2 : pts.testBit i
          · rfl
          · exact absurd ⟨i, e2, e⟩ hno
        · rw [h2' i e]
      rw [this] at h3
      omega
    obtain ⟨p, hp1, hp2⟩ := hx
    have hp8 := bit_lt8 hp hp1
    obtain ⟨l1, l2⟩ := less1 pts hp p hp8 (cut_bit hp1)
    refine ⟨p, hp8, cut_bit hp1, (sub_pop _ l2 s hs (sub_bits.mpr (fun i hi => ?_)) (by omega)).symm⟩
    rw [cut_test, h2' i hi]
    simp only [Bool.true_and, Bool.not_eq_true', decide_eq_false_iff_not]
    intro e
    rw [e] at hp2
    rw [hp2] at hi
    cases hi
theorem inT_iff {pts s : Nat} (hp : pts < 256) : ∀ n p, p + n ≤ 8 → (inT pts n p s = true ↔ ∃ q, p ≤ q ∧ q < p + n ∧ (pts / 2 ^ q) &&& 1 = 1 ∧ s = pts ^^^ (pts &&& 2 ^ q))
  | 0, p, _ => by
    constructor
    · intro h
      cases h
    · rintro ⟨q, h1, h2, _⟩
      omega
  | n + 1, p, h8 => by
    have ih := inT_iff (s := s) hp n (p + 1) (by omega)
    rw [inT]
    by_cases c : (pts / 2 ^ p) &&& 1 = 1 ∧ s = pts ^^^ (pts &&& 2 ^ p)
    · have hno : inT pts n (p + 1) s = false := by
        cases e : inT pts n (p + 1) s
        · rfl
        · obtain ⟨q, h1, h2, h3, h4⟩ := ih.mp e
          exact absurd (c.2.symm.trans h4) (less_ne pts hp p (by omega) q (by omega) (by omega) c.1 h3)
      rw [hno, decide_eq_true c.1, decide_eq_true c.2]
      constructor
      · intro _
        exact ⟨p, Nat.le_refl _, by omega, c.1, c.2⟩
      · intro _
        rfl
    · have h0 : (decide ((pts / 2 ^ p) &&& 1 = 1) && decide (s = pts ^^^ (pts &&& 2 ^ p))) = false := by
        cases e : (decide ((pts / 2 ^ p) &&& 1 = 1) && decide (s = pts ^^^ (pts &&& 2 ^ p)))
        · rfl
        · simp only [Bool.and_eq_true, decide_eq_true_eq] at e
          exact absurd e c
      rw [h0, Bool.false_xor, ih]
      constructor
      · rintro ⟨q, h1, h2, h3⟩
        exact ⟨q, by omega, by omega, h3⟩
      · rintro ⟨q, h1, h2, h3⟩
        refine ⟨q, ?_, by omega, h3⟩
        rcases Nat.lt_or_eq_of_le h1 with z | z
        · exact z
        · rw [← z] at h3
          exact absurd h3 c
theorem inT_iff4 (pts : Nat) (hp : pts < 256) (s : Nat) (hs : s < 256) : inT pts 8 0 s = true ↔ (s &&& pts = s ∧ pop s + 1 = pop pts) := by
  rw [inT_iff hp 8 0 (Nat.le_refl _), ← sub1 hp hs]
  constructor
  · rintro ⟨q, h1, h2, h3⟩
    exact ⟨q, by omega, h3⟩
  · rintro ⟨q, h1, h2⟩
    exact ⟨q, Nat.zero_le _, by omega, h2⟩
theorem flp_does {K : Nat} {B : HP} (h : HOK K B) {a : Nat} (ha : a < 256) (hn : ¬ prt K B a = 0) {t : Nat} (ht : t < 256) : (insA a (a ||| prt K B a) 8 t || (!decide (t &&& a = a) && B t)) = flp K B a t := by
  obtain ⟨f1, f2⟩ := prt_fact h ha hn
  obtain ⟨q1, q2, q3, q4, q5, q6⟩ := prt_pop h ha hn
  have hlt := prt_lt K B a
  have hor := or_lt ha hlt
  have f2 := f2 t ht
  unfold flp
  rw [if_neg hn, togA, togs_in]
  have hi := inT_iff4 (a ||| prt K B a) hor t ht
  have hA := insA_iff (a := a) (pts := a ||| prt K B a) (t := t) 8
  -- what comes: not all of a
  have hA2 : insA a (a ||| prt K B a) 8 t = true ↔ (inT (a ||| prt K B a) 8 0 t = true ∧ ¬ t &&& a = a) := by
    rw [hA, hi]
    constructor
    · rintro ⟨p, h1, h2, h3⟩
      have hb := bit_cut.mp h2
      have hb2 : (a ||| prt K B a).testBit p = true := by rw [Nat.testBit_or, hb]; rfl
      obtain ⟨l1, l2⟩ := less1 (a ||| prt K B a) hor p h1 (cut_bit hb2)
      rw [← h3] at l1
      refine ⟨⟨?_, l1⟩, fun z => ?_⟩
      · rw [Nat.and_comm]
        refine sub_bits.mpr (fun i hi => ?_)
        rw [h3, cut_test, Bool.and_eq_true] at hi
        exact hi.1
      · have := sub_bits.mp z p hb
        rw [h3, cut_test] at this
        simp at this
    · rintro ⟨⟨h1, h2⟩, h3⟩
      have hx : ∃ p, a.testBit p = true ∧ t.testBit p = false := by
        apply Classical.byContradiction
        intro hno
        apply h3
        refine sub_bits.mpr (fun i hi => ?_)
        cases e : t.testBit i
        · exact absurd ⟨i, hi, e⟩ hno
        · rfl
      obtain ⟨p, hp1, hp2⟩ := hx
      have hp8 := bit_lt8 ha hp1
      have hb2 : (a ||| prt K B a).testBit p = true := by rw [Nat.testBit_or, hp1]; rfl
      obtain ⟨l1, l2⟩ := less1 (a ||| prt K B a) hor p hp8 (cut_bit hb2)
      refine ⟨p, hp8, bit_cut.mpr hp1, (sub_pop _ l2 t ht ?_ (by omega)).symm⟩
      rw [Nat.and_comm] at h1
      refine sub_bits.mpr (fun i hi => ?_)
      rw [cut_test, sub_bits.mp h1 i hi]
      simp only [Bool.true_and, Bool.not_eq_true', decide_eq_false_iff_not]
      intro e
      rw [e] at hp2
      rw [hp2] at hi
      cases hi
  cases hT : inT (a ||| prt K B a) 8 0 t
  · -- stands
    have h1 : insA a (a ||| prt K B a) 8 t = false := by
      cases e : insA a (a ||| prt K B a) 8 t
      · rfl
      · rw [(hA2.mp e).1] at hT
        cases hT
    rw [h1, Bool.false_or, Bool.xor_false]
    cases hB : B t
    · rw [Bool.and_false]
    · by_cases e : t &&& a = a
      · have := TS_t.mp (f2.mp ⟨hB, e⟩)
        rw [hi.mpr ⟨this.2.1, by omega⟩] at hT
        cases hT
      · simp [e]
  · have hi2 := hi.mp hT
    by_cases e : t &&& a = a
    · have hB : B t = true := (f2.mpr (TS_t.mpr ⟨e, hi2.1, by omega⟩)).1
      have h1 : insA a (a ||| prt K B a) 8 t = false := by
        cases e2 : insA a (a ||| prt K B a) 8 t
        · rfl
        · exact absurd e (hA2.mp e2).2
      rw [h1, hB]
      simp [e]
    · rw [hA2.mpr ⟨hT, e⟩, Bool.true_or]
      have hB : B t = false := by
        cases hB : B t
        · rfl
        · exfalso
          -- t holds all of b
          obtain ⟨p, h1, h2, h3⟩ := hA.mp (hA2.mpr ⟨hT, e⟩)
          have hb := bit_cut.mp h2
          have : 0 < cW B (prt K B a) := cW_pos.mpr ⟨t, ht, hB, sub_bits.mpr (fun i hi3 => by
            rw [h3, cut_test, Nat.testBit_or, hi3, Bool.or_true, Bool.true_and]
            simp only [Bool.not_eq_true', decide_eq_false_iff_not]
            intro e2
            have := dis_bits.mp q5 p hb
            rw [e2, hi3] at this
            cases this)⟩
          omega
      rw [hB]
      rfl
