/-! THE MODEL: its cells; faces -/
/-- a row of booleans tells a heap -/
def BA (μ : Mem) (a : Nat) (B : HP) : Prop := ∀ s, s < 256 → μ a s = bI (B s)
/-- all but those cells stands, of the model's own that of its state -/
def mf (l : List Nat) (μ μ' : Mem) : Prop := (∀ i, i ∉ l → i ≠ 24 → μ' i = μ i) ∧ ∀ k, k ∈ [0, 6, 15, 19, 25, 28, 29, 30] → μ' 24 k = μ 24 k
theorem mf.rf {l : List Nat} {μ : Mem} : mf l μ μ := ⟨fun _ _ _ => rfl, fun _ _ => rfl⟩
theorem mf.tr {l : List Nat} {μ ν ρ : Mem} (h1 : mf l μ ν) (h2 : mf l ν ρ) : mf l μ ρ := ⟨fun i a b => (h2.1 i a b).trans (h1.1 i a b), fun k h => (h2.2 k h).trans (h1.2 k h)⟩
theorem mf.mono {l l' : List Nat} {μ ν : Mem} (h : mf l μ ν) (hs : ∀ i ∈ l, i ∈ l') : mf l' μ ν := ⟨fun i a b => h.1 i (fun z => a (hs i z)) b, h.2⟩
theorem mf.fr {l : List Nat} {μ ν : Mem} (h : frm l μ ν) (h24 : 24 ∉ l) : mf l μ ν := ⟨fun i a _ => h i a, fun k _ => by rw [h 24 h24]⟩
theorem mf.own {μ : Mem} {l : List Nat} {k : Nat} {v : Int32} (hk : k ∉ [0, 6, 15, 19, 25, 28, 29, 30]) : mf l μ (mset μ 24 (upd (μ 24) k v)) := ⟨fun i _ b => mset_ne b, fun j hj => by rw [mset_eq, pk_un (fun z => hk (by rw [← z]; exact hj))]⟩
theorem BA.mf {μ μ' : Mem} {a : Nat} {B : HP} {l : List Nat} (h : BA μ a B) (hf : mf l μ μ') (ha : a ∉ l) (h24 : a ≠ 24) : BA μ' a B := fun s hs => by rw [hf.1 a ha h24]; exact h s hs
def orB (B : HP) : Nat → Nat
  | 0 => 0
  | n + 1 => if B n = true then orB B n ||| n else orB B n
/-- bodies below b that hold t -/
def cWp (B : HP) (b t : Nat) : Nat := cnt (fun u => B u && decide (u &&& t = t)) b 0
def FA (μ : Mem) (B : HP) : Prop := (∀ s, s < 256 → μ 78 s = bI (decide (0 < s) && decide (0 < cW B s))) ∧ (∀ s, 0 < s → s < 256 → μ 26 s = nI (cW B s)) ∧ μ 24 4 = nI (orB B 256)
def FAp (μ : Mem) (B : HP) (b : Nat) : Prop := (∀ s, s < 256 → μ 78 s = bI (decide (0 < s) && decide (0 < cWp B b s))) ∧ (∀ s, 0 < s → s < 256 → μ 26 s = nI (cWp B b s)) ∧ μ 24 4 = nI (orB B b)
def sbE (b : Nat) : Nat → Nat → Nat
  | 0, s => s
  | n + 1, s => sbE b n (nxs b s)
theorem sbz3a : ∀ b, b < 256 → pop b = 3 → sbE b 7 b = 0 ∧ nxs b 0 = b := by decide +kernel
theorem sbz4a : ∀ b, b < 256 → pop b = 4 → sbE b 15 b = 0 ∧ nxs b 0 = b := by decide +kernel
theorem sbs_snoc (b : Nat) : ∀ n s, sbs b (n + 1) s = sbs b n s ++ [sbE b n s]
  | 0, s => rfl
  | n + 1, s => by
    rw [sbs, sbs_snoc b n (nxs b s), sbs, sbE, List.cons_append]
theorem sbz {K b : Nat} (hK : K = 3 ∨ K = 4) (hb : b < 256) (hp : pop b = K) : ∃ n, (sbs b n b).Nodup ∧ sbE b n b = 0 ∧ ∀ s, s < 256 → (s ∈ sbs b n b ↔ (b &&& s = s ∧ ¬ s = 0)) := by
  have key : ∀ n, 2 ^ K = n + 1 → sbE b n b = 0 → ∃ n, (sbs b n b).Nodup ∧ sbE b n b = 0 ∧ ∀ s, s < 256 → (s ∈ sbs b n b ↔ (b &&& s = s ∧ ¬ s = 0)) := by
    intro n hn h0
    obtain ⟨h1, h2⟩ := sbsK hK hb hp
    rw [hn, sbs_snoc, h0] at h1
    simp only [hn, sbs_snoc, h0] at h2
    have h1 := List.nodup_append.mp h1
    refine ⟨n, h1.1, h0, fun s hs => ?_⟩
    have := h2 s hs
    rw [List.mem_append, List.mem_singleton] at this
    constructor
    · intro z
      exact ⟨this.mp (Or.inl z), fun e => h1.2.2 s z 0 (List.mem_singleton.mpr rfl) e⟩
    · intro z
      exact (this.mpr z.1).elim id (fun e => absurd e z.2)
  rcases hK with rfl | rfl
  · exact key 7 rfl (sbz3a b hb hp).1
  · exact key 15 rfl (sbz4a b hb hp).1
theorem sbs_lt (b : Nat) : ∀ n s t, b < 256 → s < 256 → t ∈ sbs b n s → t < 256
  | 0, _, _, _, _, h => by cases h
  | n + 1, s, t, hb, hs, h => by
    rcases List.mem_cons.mp h with e | e
    · omega
    · exact sbs_lt b n (nxs b s) t hb (nxs_lt hb) e
theorem cWp_s {B : HP} {b t : Nat} : cWp B (b + 1) t = cWp B b t + (if B b = true ∧ b &&& t = t then 1 else 0) := by
  unfold cWp
  rw [cnt_add _ b 1 0]
  simp only [cnt, Nat.zero_add, Nat.add_zero, Bool.and_eq_true, decide_eq_true_eq]
theorem HA78 : HA 78 1 256 := ⟨by decide, rfl, by decide⟩
theorem HA26 : HA 26 0 256 := ⟨by decide, rfl, by decide⟩
theorem FAp_no {μ : Mem} {B : HP} {b : Nat} (h : FAp μ B b) (hb : B b = false) : FAp μ B (b + 1) := by
  have e : ∀ t, cWp B (b + 1) t = cWp B b t := fun t => by rw [cWp_s, if_neg (by rw [hb]; simp), Nat.add_zero]
  refine ⟨fun s hs => by rw [e]; exact h.1 s hs, fun s h0 hs => by rw [e]; exact h.2.1 s h0 hs, ?_⟩
  rw [orB, if_neg (by rw [hb]; exact Bool.false_ne_true)]
  exact h.2.2
theorem FAp_yes {μ ν' : Mem} {B : HP} {b n : Nat} (h : FAp μ B b) (hb : B b = true) (hb2 : b < 256) (n3 : ∀ s, s < 256 → (s ∈ sbs b n b ↔ (b &&& s = s ∧ ¬ s = 0))) (h78 : ∀ t, t < 256 → ν' 78 t = (if t ∈ sbs b n b then 1 else μ 78 t)) (h26 : ∀ t, t < 256 → ν' 26 t = μ 26 t + (if t ∈ sbs b n b then 1 else 0)) (h4 : ν' 24 4 = nI (orB B b ||| b)) : FAp ν' B (b + 1) := by
  refine ⟨fun s hs => ?_, fun s h0 hs => ?_, ?_⟩
  · rw [h78 s hs, h.1 s hs, cWp_s]
    by_cases e : b &&& s = s
    · by_cases e0 : s = 0
      · rw [if_neg (fun z => ((n3 s hs).mp z).2 e0), e0]
        simp
      · rw [if_pos ((n3 s hs).mpr ⟨e, e0⟩), if_pos ⟨hb, e⟩]
        have : 0 < s := by omega
        simp [bI, this]
    · rw [if_neg (fun z => e ((n3 s hs).mp z).1), if_neg (fun z => e z.2), Nat.add_zero]
  · rw [h26 s hs, h.2.1 s h0 hs, cWp_s]
    by_cases e : b &&& s = s
    · rw [if_pos ((n3 s hs).mpr ⟨e, by omega⟩), if_pos ⟨hb, e⟩]
      exact incN _
    · rw [if_neg (fun z => e ((n3 s hs).mp z).1), if_neg (fun z => e z.2), Nat.add_zero, Int32.add_zero]
  · rw [orB, if_pos hb]
    exact h4
theorem orB_lt {B : HP} : ∀ n, n ≤ 256 → orB B n < 256
  | 0, _ => Nat.zero_lt_succ _
  | n + 1, h => by
    have := orB_lt (B := B) n (by omega)
    rw [orB]
    split
    · exact or_lt this (by omega)
    · exact this
set_option maxHeartbeats 8000000 in
theorem c_X9_layFaces {l : Launch} {a K : Nat} {B : HP} {μ : Mem} {Q : Option Value → Mem → Prop} (hA : HA a 1 256) (ha : 77 ≤ a ∧ a ≠ 78) (hK : HOK K B) (hB : BA μ a B) (hQ : ∀ μ', mf [26, 78] μ μ' → FA μ' B → Q none μ') : CC l 0 mX9_layFaces [.ref 24, .ref a] μ Q := by
  refine CC.of (M := mX9_layFaces) (by decide +kernel) rfl (fun v h => by simp at h; rcases h with rfl | rfl <;> rfl) (Nat.le_of_ble_eq_true rfl) (fun X hX => ?_)
  have hc := hX.cx
  have a78 := HA78
  have a26 := HA26
  have I : ∀ (b : Nat), b < 256 → ∀ (n s : Nat) (ν : Mem), s < 256 → sbE b n s = 0 → (sbs b n s).Nodup → (∀ t ∈ sbs b n s, ¬ t = 0) → (∀ ν', frm [26, 78] ν ν' → (∀ t, t < 256 → ν' 78 t = (if t ∈ sbs b n s then 1 else ν 78 t)) → (∀ t, t < 256 → ν' 26 t = ν 26 t + (if t ∈ sbs b n s then 1 else 0)) → TT X 94 [.ref 24, .ref a, .int (nI b), .int 0] [] ν') → TT X 64 [.ref 24, .ref a, .int (nI b), .int (nI s)] [] ν := by
    intro b hb n
    induction n with
    | zero =>
      intro s ν hs h0 hn hz h
      rw [sbE] at h0
      subst h0
      refine tt_il3 (q := 65) hc dX9_layFaces_64 rfl ?_
      first | (with_reducible refine chk1 ?_; refine tt_ifleN (t := 94) (q := 68) hc (by omega) dX9_layFaces_65 rfl rfl (fun c_65 => ?_) (fun c_65 => ?_)) | refine tt_ifle (t := 94) (q := 68) hc dX9_layFaces_65 rfl rfl (fun c_65 => ?_) (fun c_65 => ?_)
      · exact h ν frm.rf (fun t _ => by simp [sbs]) (fun t _ => by simp [sbs])
      · omega
    | succ n ih =>
      intro s ν hs h0 hn hz h
      have hs0 := hz s (by simp [sbs])
      have hx := nxs_lt (s := s) hb
      have hnn := List.nodup_cons.mp hn
      refine tt_il3 (q := 65) hc dX9_layFaces_64 rfl ?_
      first | (with_reducible refine chk1 ?_; refine tt_ifleN (t := 94) (q := 68) hc (by omega) dX9_layFaces_65 rfl rfl (fun c_65 => ?_) (fun c_65 => ?_)) | refine tt_ifle (t := 94) (q := 68) hc dX9_layFaces_65 rfl rfl (fun c_65 => ?_) (fun c_65 => ?_)
      · omega
      · refine tt_al0 (q := 69) hc dX9_layFaces_68 rfl ?_
        refine tt_getR (q := 72) hc fl_X9_19 (by first | assumption | exact ⟨by decide, _, rfl, rfl⟩) dX9_layFaces_69 rfl ?_
        refine tt_il3 (q := 73) hc dX9_layFaces_72 rfl ?_
        refine tt_iconst (v := nI 1) (q := 74) hc rfl dX9_layFaces_73 rfl ?_
        refine tt_zast (q := 75) hc (by first | assumption | exact ⟨by decide, rfl, by decide⟩) (by omega) (by first | decide | exact bI_01 _) dX9_layFaces_74 rfl ?_
        refine tt_al0 (q := 76) hc dX9_layFaces_75 rfl ?_
        refine tt_getR (q := 79) hc fl_X9_22 (by first | assumption | exact ⟨by decide, _, rfl, rfl⟩) dX9_layFaces_76 rfl ?_
        refine tt_il3 (q := 80) hc dX9_layFaces_79 rfl ?_
        refine tt_dup2 (q := 81) hc rfl rfl dX9_layFaces_80 rfl ?_
        refine tt_iald (q := 82) hc (by first | assumption | exact ⟨by decide, rfl, by decide⟩) (by omega) dX9_layFaces_81 rfl ?_
        refine tt_iconst (v := nI 1) (q := 83) hc rfl dX9_layFaces_82 rfl ?_
        first | (with_reducible refine chk2 ?_; refine tt_iaddN (q := 84) hc dX9_layFaces_83 rfl ?_) | refine tt_iadd (q := 84) hc dX9_layFaces_83 rfl ?_
        refine tt_iast (q := 85) hc (by first | assumption | exact ⟨by decide, rfl, by decide⟩) (by omega) dX9_layFaces_84 rfl ?_
        refine tt_il3 (q := 86) hc dX9_layFaces_85 rfl ?_
        refine tt_iconst (v := nI 1) (q := 87) hc rfl dX9_layFaces_86 rfl ?_
        first | (with_reducible refine chk2 ?_; refine tt_isubN (q := 88) hc (by omega) dX9_layFaces_87 rfl ?_) | refine tt_isub (q := 88) hc dX9_layFaces_87 rfl ?_
        refine tt_il2 (q := 89) hc dX9_layFaces_88 rfl ?_
        first | (with_reducible refine chk2 ?_; refine tt_iandN (q := 90) hc dX9_layFaces_89 rfl ?_) | (with_reducible refine chkan ?_; refine tt_iandnN (q := 90) hc dX9_layFaces_89 rfl ?_) | (with_reducible refine chkna ?_; refine tt_inandN (q := 90) hc dX9_layFaces_89 rfl ?_) | refine tt_iand (q := 90) hc dX9_layFaces_89 rfl ?_
        rw [show (s - 1) &&& b = nxs b s by rw [nxs, if_neg hs0]]
        refine tt_is3 (q := 91) hc dX9_layFaces_90 rfl (by decide) ?_
        refine tt_goto (t := 64) hc dX9_layFaces_91 rfl ?_
        refine ih (nxs b s) _ hx (by rw [sbE] at h0; exact h0) hnn.2 (fun t ht => hz t (List.mem_cons_of_mem _ ht)) (fun ν' hf h78 h26 => h ν' (((frm.set (i := 78)).mono (by simp)).tr (((frm.set (i := 26)).mono (by simp)).tr hf)) (fun t ht => ?_) (fun t ht => ?_))
        · rw [h78 t ht]
          show (if t ∈ sbs b n (nxs b s) then 1 else upd (ν 78) s 1 t) = _
          by_cases e : t = s
          · subst e
            rw [pk_us]
            simp only [sbs, List.mem_cons, true_or, if_true, if_neg hnn.1]
          · rw [pk_un e]
            simp only [sbs, List.mem_cons, e, false_or]
        · rw [h26 t ht]
          show upd (ν 26) s (ν 26 s + 1) t + (if t ∈ sbs b n (nxs b s) then 1 else 0) = _
          by_cases e : t = s
          · subst e
            rw [pk_us]
            simp only [sbs, List.mem_cons, true_or, if_true, if_neg hnn.1, Int32.add_zero]
          · rw [pk_un e]
            simp only [sbs, List.mem_cons, e, false_or]
  have J : ∀ (m b : Nat) (ν : Mem) (w3 : Value), b + m = 256 → FAp ν B b → BA ν a B → mf [26, 78] μ ν → TT X 36 [.ref 24, .ref a, .int (nI b), w3] [] ν := by
    intro m
    induction m with
    | zero =>
      intro b ν w3 hb hF hB hm
      have hb : b = 256 := by omega
      subst hb
      refine tt_il2 (q := 37) hc dX9_layFaces_36 rfl ?_
      refine tt_sipush (v := nI 256) (q := 40) hc (by decide) dX9_layFaces_37 rfl ?_
      first | (with_reducible refine chk2 ?_; refine tt_icgeN (t := 100) (q := 43) hc (by omega) (by omega) dX9_layFaces_40 rfl rfl (fun c_40 => ?_) (fun c_40 => ?_)) | refine tt_icge (t := 100) (q := 43) hc dX9_layFaces_40 rfl rfl (fun c_40 => ?_) (fun c_40 => ?_)
      · refine tt_retv hX rfl dX9_layFaces_100 ?_
        exact hQ ν hm hF
      · omega
    | succ m ih =>
      intro b ν w3 hb hF hB hm
      have hor := orB_lt (B := B) b (by omega)
      have E : ∀ (ν' : Mem) (w : Value), FAp ν' B (b + 1) → BA ν' a B → mf [26, 78] μ ν' → TT X 94 [.ref 24, .ref a, .int (nI b), w] [] ν' := by
        intro ν' w h1 h2 h3
        first | refine tt_inc2 (q := 97) hc dX9_layFaces_94 rfl (by decide) (incN _) ?_ | refine tt_inc2 (q := 97) hc dX9_layFaces_94 rfl (by decide) rfl ?_
        refine tt_goto (t := 36) hc dX9_layFaces_97 rfl ?_
        exact ih (b + 1) ν' _ (by omega) h1 h2 h3
      refine tt_il2 (q := 37) hc dX9_layFaces_36 rfl ?_
      refine tt_sipush (v := nI 256) (q := 40) hc (by decide) dX9_layFaces_37 rfl ?_
      first | (with_reducible refine chk2 ?_; refine tt_icgeN (t := 100) (q := 43) hc (by omega) (by omega) dX9_layFaces_40 rfl rfl (fun c_40 => ?_) (fun c_40 => ?_)) | refine tt_icge (t := 100) (q := 43) hc dX9_layFaces_40 rfl rfl (fun c_40 => ?_) (fun c_40 => ?_)
      · omega
      · refine tt_al1 (q := 44) hc dX9_layFaces_43 rfl ?_
        refine tt_il2 (q := 45) hc dX9_layFaces_44 rfl ?_
        refine tt_zald (q := 46) hc (by first | assumption | exact ⟨by decide, rfl, by decide⟩) (by omega) dX9_layFaces_45 rfl ?_
        rw [hB b (by omega)]
        first | (with_reducible refine chkb ?_; refine tt_ifneB (t := 52) (q := 49) hc dX9_layFaces_46 rfl rfl (fun c_46 => ?_) (fun c_46 => ?_)) | (with_reducible refine chk1 ?_; refine tt_ifneN (t := 52) (q := 49) hc (by omega) dX9_layFaces_46 rfl rfl (fun c_46 => ?_) (fun c_46 => ?_)) | refine tt_ifne (t := 52) (q := 49) hc dX9_layFaces_46 rfl rfl (fun c_46 => ?_) (fun c_46 => ?_)
        · refine tt_al0 (q := 53) hc dX9_layFaces_52 rfl ?_
          refine tt_dup (q := 54) hc rfl dX9_layFaces_53 rfl ?_
          refine tt_getI (q := 57) hc fl_X9_107 (by first | assumption | exact ⟨by decide, _, rfl, _, rfl⟩) dX9_layFaces_54 rfl ?_
          rw [hF.2.2]
          refine tt_il2 (q := 58) hc dX9_layFaces_57 rfl ?_
          first | (with_reducible refine chk2 ?_; refine tt_iorN (q := 59) hc dX9_layFaces_58 rfl ?_) | refine tt_ior (q := 59) hc dX9_layFaces_58 rfl ?_
          refine tt_putI (q := 62) hc fp_X9_107 (by first | assumption | exact ⟨by decide, _, rfl, _, rfl⟩) dX9_layFaces_59 rfl ?_
          refine tt_il2 (q := 63) hc dX9_layFaces_62 rfl ?_
          refine tt_is3 (q := 64) hc dX9_layFaces_63 rfl (by decide) ?_
          obtain ⟨n, n1, n2, n3⟩ := sbz hK.1 (show b < 256 by omega) (hK.2 b c_46).2
          refine I b (by omega) n b _ (by omega) n2 n1 (fun t ht => ?_) (fun ν' hf h78 h26 => E ν' _ ?_ ?_ ?_)
          · exact ((n3 t (sbs_lt b n b t (by omega) (by omega) ht)).mp ht).2
          · exact FAp_yes (μ := ν) hF c_46 (by omega) n3 h78 h26 (by rw [hf 24 (by decide)]; rfl)
          · exact (hB.mf (mf.own (l := [26, 78]) (by decide)) (by simp; omega) (by omega)).mf (mf.fr hf (by decide)) (by simp; omega) (by omega)
          · exact hm.tr ((mf.own (by decide)).tr (mf.fr hf (by decide)))
        · refine tt_goto (t := 94) hc dX9_layFaces_49 rfl ?_
          exact E ν _ (FAp_no hF c_46) hB hm
  have C : ∀ (m s : Nat) (ν : Mem) (w3 : Value), s + m = 256 → ν 24 4 = 0 → (∀ t, t < s → ν 78 t = 0 ∧ ν 26 t = 0) → BA ν a B → mf [26, 78] μ ν → TT X 7 [.ref 24, .ref a, .int (nI s), w3] [] ν := by
    intro m
    induction m with
    | zero =>
      intro s ν w3 hs h4 hz hB hm
      have hs : s = 256 := by omega
      subst hs
      have hB0 : B 0 = false := by
        cases h : B 0
        · rfl
        · have h1 := hK.2 0 h
          have h2 := hK.1
          have h3 : pop 0 = 0 := by decide
          omega
      refine tt_il2 (q := 8) hc dX9_layFaces_7 rfl ?_
      refine tt_sipush (v := nI 256) (q := 11) hc (by decide) dX9_layFaces_8 rfl ?_
      first | (with_reducible refine chk2 ?_; refine tt_icgeN (t := 34) (q := 14) hc (by omega) (by omega) dX9_layFaces_11 rfl rfl (fun c_11 => ?_) (fun c_11 => ?_)) | refine tt_icge (t := 34) (q := 14) hc dX9_layFaces_11 rfl rfl (fun c_11 => ?_) (fun c_11 => ?_)
      · refine tt_iconst (v := nI 1) (q := 35) hc rfl dX9_layFaces_34 rfl ?_
        refine tt_is2 (q := 36) hc dX9_layFaces_35 rfl (by decide) ?_
        exact J 255 1 ν _ rfl (FAp_no ⟨fun t ht => by rw [(hz t ht).1, cWp, cnt]; simp [bI], fun t _ ht => (hz t ht).2, h4⟩ hB0) hB hm
      · omega
    | succ m ih =>
      intro s ν w3 hs h4 hz hB hm
      refine tt_il2 (q := 8) hc dX9_layFaces_7 rfl ?_
      refine tt_sipush (v := nI 256) (q := 11) hc (by decide) dX9_layFaces_8 rfl ?_
      first | (with_reducible refine chk2 ?_; refine tt_icgeN (t := 34) (q := 14) hc (by omega) (by omega) dX9_layFaces_11 rfl rfl (fun c_11 => ?_) (fun c_11 => ?_)) | refine tt_icge (t := 34) (q := 14) hc dX9_layFaces_11 rfl rfl (fun c_11 => ?_) (fun c_11 => ?_)
      · omega
      · refine tt_al0 (q := 15) hc dX9_layFaces_14 rfl ?_
        refine tt_getR (q := 18) hc fl_X9_19 (by first | assumption | exact ⟨by decide, _, rfl, rfl⟩) dX9_layFaces_15 rfl ?_
        refine tt_il2 (q := 19) hc dX9_layFaces_18 rfl ?_
        refine tt_iconst (v := nI 0) (q := 20) hc rfl dX9_layFaces_19 rfl ?_
        refine tt_zast (q := 21) hc (by first | assumption | exact ⟨by decide, rfl, by decide⟩) (by omega) (by first | decide | exact bI_01 _) dX9_layFaces_20 rfl ?_
        refine tt_al0 (q := 22) hc dX9_layFaces_21 rfl ?_
        refine tt_getR (q := 25) hc fl_X9_22 (by first | assumption | exact ⟨by decide, _, rfl, rfl⟩) dX9_layFaces_22 rfl ?_
        refine tt_il2 (q := 26) hc dX9_layFaces_25 rfl ?_
        refine tt_iconst (v := nI 0) (q := 27) hc rfl dX9_layFaces_26 rfl ?_
        refine tt_iast (q := 28) hc (by first | assumption | exact ⟨by decide, rfl, by decide⟩) (by omega) dX9_layFaces_27 rfl ?_
        first | refine tt_inc2 (q := 31) hc dX9_layFaces_28 rfl (by decide) (incN _) ?_ | refine tt_inc2 (q := 31) hc dX9_layFaces_28 rfl (by decide) rfl ?_
        refine tt_goto (t := 7) hc dX9_layFaces_31 rfl ?_
        have hf : frm [26, 78] ν (mset (mset ν 78 (upd (ν 78) s 0)) 26 (upd (ν 26) s 0)) := ((frm.set (i := 78)).mono (by simp)).tr ((frm.set (i := 26)).mono (by simp))
        refine ih (s + 1) _ _ (by omega) h4 (fun t ht => ?_) (hB.mf (mf.fr hf (by decide)) (by simp; omega) (by omega)) (hm.tr (mf.fr hf (by decide)))
        show upd (ν 78) s 0 t = 0 ∧ upd (ν 26) s 0 t = 0
        by_cases e : t = s
        · subst e
          rw [pk_us, pk_us]
          exact ⟨rfl, rfl⟩
        · rw [pk_un e, pk_un e]
          exact hz t (by omega)
  refine tt_al0 (q := 1) hc dX9_layFaces_0 rfl ?_
  refine tt_iconst (v := nI 0) (q := 2) hc rfl dX9_layFaces_1 rfl ?_
  refine tt_putI (q := 5) hc fp_X9_107 (by first | assumption | exact ⟨by decide, _, rfl, _, rfl⟩) dX9_layFaces_2 rfl ?_
  refine tt_iconst (v := nI 0) (q := 6) hc rfl dX9_layFaces_5 rfl ?_
  refine tt_is2 (q := 7) hc dX9_layFaces_6 rfl (by decide) ?_
  exact C 256 0 _ _ rfl rfl (fun t ht => absurd ht (Nat.not_lt_zero _)) (hB.mf (mf.own (l := [26, 78]) (by decide)) (by simp; omega) (by omega)) (mf.own (by decide))
