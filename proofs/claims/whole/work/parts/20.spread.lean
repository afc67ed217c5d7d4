/-! WAYS: the spreading itself -/
/-- what holds while a heap's bodies are spread over: how many are reached -/
def cV (B : Nat → Bool) (v : Vis) : Nat := cnt (fun s => B s && (v s).isSome) 256 0
theorem cV_set {B : Nat → Bool} {v : Vis} {s : Nat} {x : Nat × Nat} (hs : s < 256) (hB : B s = true) (hv : v s = none) : cV B (vset v s x) = cV B v + 1 := by
  have h := cnt_at (P := fun t => B t && (vset v s x t).isSome) (R := fun t => B t && (v t).isSome) (b := s) (fun t ht => by simp [vset, ht]) 256 0 (Nat.zero_le _) (by omega)
  simp only [vset, hB, hv, if_true, Option.isSome_some, Option.isSome_none, Bool.and_true, Bool.and_false] at h
  simpa [cV, vset] using h
theorem cV_lt {B : Nat → Bool} {v : Vis} {s : Nat} (hs : s < 256) (hB : B s = true) (hv : v s = none) : cV B v < tot B := by
  have h1 := cV_set (x := (0, 0)) hs hB hv
  have h2 : cV B (vset v s (0, 0)) ≤ tot B := cnt_mono (fun t ht => by simp at ht; exact ht.1) 256 0
  omega
theorem cV_le {B : Nat → Bool} {v : Vis} : cV B v ≤ tot B := cnt_mono (fun t ht => by simp at ht; exact ht.1) 256 0
/-- the state of a spreading: the pile's bodies are reached, and so many more are -/
def PI (B : Nat → Bool) (st : List Nat × Vis) (v0 : Nat) : Prop := st.1.length + v0 = cV B st.2 ∧ ∀ s ∈ st.1, B s = true ∧ ∃ x, st.2 s = some x
theorem vset_eq {v : Vis} {s : Nat} {x : Nat × Nat} : vset v s x s = some x := by simp [vset]
theorem vset_ne {v : Vis} {s t : Nat} {x : Nat × Nat} (h : t ≠ s) : vset v s x t = v t := by simp [vset, h]
theorem PI.push {K : Nat} {B : Nat → Bool} (hB : HOK K B) {st : List Nat × Vis} {v0 s : Nat} {x : Nat × Nat} (h : PI B st v0) (hs : B s = true) (hv : st.2 s = none) : PI B (st.1 ++ [s], vset st.2 s x) v0 := by
  refine ⟨?_, fun t ht => ?_⟩
  · rw [List.length_append, cV_set (hB.2 s hs).1 hs hv]
    have := h.1
    simp
    omega
  · rcases List.mem_append.mp ht with z | z
    · obtain ⟨h1, y, h2⟩ := h.2 t z
      refine ⟨h1, y, ?_⟩
      show vset st.2 s x t = some y
      rw [vset_ne (fun e : t = s => by rw [e, hv] at h2; cases h2)]
      exact h2
    · have e := List.mem_singleton.mp z
      subst e
      exact ⟨hs, _, vset_eq⟩
/-- the queue's cells: places of the pile's bodies -/
def QR (μ : Mem) (bs pile : List Nat) : Prop := ∀ k s, pile[k]? = some s → ∃ i, bs[i]? = some s ∧ μ 10 k = nI i
theorem drop_cons {α : Type} {l r : List α} {i : Nat} {a : α} (h : l.drop i = a :: r) : l[i]? = some a ∧ l.drop (i + 1) = r := by
  have h1 : (l.drop i)[0]? = some a := by rw [h]; rfl
  rw [List.getElem?_drop] at h1
  refine ⟨by simpa using h1, ?_⟩
  have h2 : (l.drop i).drop 1 = r := by rw [h]; rfl
  rw [List.drop_drop] at h2
  exact h2
theorem drop_nil {α : Type} {l : List α} {i : Nat} (h : l.drop i = []) : l.length ≤ i := List.drop_eq_nil_iff.mp h
/-- signs are 0 or 1 -/
theorem sg01_set {v : Vis} {s d g : Nat} (h : sg01 v) (hg : g ≤ 1) : sg01 (vset v s (d, g)) := by
  intro t d' g' e
  by_cases z : t = s
  · rw [z, vset_eq] at e
    cases e
    exact hg
  · rw [vset_ne z] at e
    exact h t d' g' e
/-- steps are few -/
def DB (B : Nat → Bool) (v : Vis) : Prop := ∀ s d g, v s = some (d, g) → d < cV B v
theorem DB.set {B : Nat → Bool} {v : Vis} {s d g : Nat} (hs : s < 256) (hB : B s = true) (hv : v s = none) (h : DB B v) (hd : d ≤ cV B v) : DB B (vset v s (d, g)) := by
  intro t d' g' e
  rw [cV_set hs hB hv]
  by_cases z : t = s
  · rw [z, vset_eq] at e
    cases e
    omega
  · rw [vset_ne z] at e
    have := h t d' g' e
    omega
theorem WR.put {μ μ' : Mem} {K : Nat} {bs : List Nat} {v : Vis} {s i d g : Nat} (hnd : bs.Nodup) (h : WR μ K bs v) (hi : bs[i]? = some s) (e6 : μ' 6 = μ 6) (e7 : μ' 7 = μ 7) (e8 : μ' 8 = upd (μ 8) i (nI d)) (e9 : μ' 9 = upd (μ 9) i (nI g)) : WR μ' K bs (vset v s (d, g)) := by
  refine ⟨by rw [e6]; exact h.1, by rw [e6]; exact h.2.1, fun k t hk => ?_⟩
  obtain ⟨h1, h2, h3⟩ := h.2.2 k t hk
  rw [e7, e8, e9]
  by_cases e : k = i
  · subst e
    have ts : t = s := by rw [hi] at hk; exact (Option.some.inj hk).symm
    subst ts
    refine ⟨h1, by rw [pk_us, vset_eq]; rfl, fun d' g' z => ?_⟩
    rw [vset_eq] at z
    cases z
    rw [pk_us]
  · have ts : t ≠ s := by
      intro z
      subst z
      have l1 := (List.getElem?_eq_some_iff.mp hk).1
      exact e ((List.getElem?_inj l1 hnd).mp (hk.trans hi.symm))
    exact ⟨h1, by rw [pk_un e, vset_ne ts]; exact h2, fun d' g' z => by rw [vset_ne ts] at z; rw [pk_un e]; exact h3 d' g' z⟩
theorem WR.q {μ μ' : Mem} {K : Nat} {bs : List Nat} {v : Vis} (h : WR μ K bs v) (hf : frm [10] μ μ') : WR μ' K bs v := by
  have e6 : μ' 6 = μ 6 := hf 6 (by decide)
  have e7 : μ' 7 = μ 7 := hf 7 (by decide)
  have e8 : μ' 8 = μ 8 := hf 8 (by decide)
  have e9 : μ' 9 = μ 9 := hf 9 (by decide)
  exact ⟨by rw [e6]; exact h.1, by rw [e6]; exact h.2.1, fun i s hi => by rw [e7, e8, e9]; exact h.2.2 i s hi⟩
theorem blF_nodup (B : Nat → Bool) : ∀ n i, (blF B n i).Nodup
  | 0, _ => List.nodup_nil
  | n + 1, i => by
    rw [blF]
    split
    · refine List.nodup_cons.mpr ⟨fun z => ?_, blF_nodup B n (i + 1)⟩
      have := ((blF_mem B n (i + 1) i).mp z).1
      omega
    · exact blF_nodup B n (i + 1)
theorem bl_nodup (B : Nat → Bool) : (bl B).Nodup := blF_nodup B 255 1
/-- the scan of one body's neighbours in the class -/
theorem scan_vis {K cur dc sc : Nat} : ∀ (r : List Nat) (st : List Nat × Vis) (s : Nat) (x : Nat × Nat), st.2 s = some x → (scan K cur dc sc r st).2 s = some x
  | [], st, s, x, h => h
  | t :: r, st, s, x, h => by
    rw [scan]
    split
    · rename_i q
      refine scan_vis r _ s x ?_
      show vset st.2 t _ s = some x
      rw [vset_ne (fun e => by rw [e, q.1] at h; cases h)]
      exact h
    · exact scan_vis r st s x h
theorem QR.push {μ μ' : Mem} {bs pile : List Nat} {s i : Nat} (h : QR μ bs pile) (hi : bs[i]? = some s) (e : μ' 10 = upd (μ 10) pile.length (nI i)) : QR μ' bs (pile ++ [s]) := by
  intro k t hk
  rw [e]
  by_cases hl : k < pile.length
  · rw [List.getElem?_append_left hl] at hk
    rw [pk_un (by omega)]
    exact h k t hk
  · have l1 := (List.getElem?_eq_some_iff.mp hk).1
    rw [List.length_append, List.length_cons, List.length_nil] at l1
    have e2 : k = pile.length := by omega
    subst e2
    rw [List.getElem?_append_right (Nat.le_refl _), Nat.sub_self] at hk
    simp only [List.getElem?_cons_zero, Option.some.injEq] at hk
    rw [pk_us, ← hk]
    exact ⟨i, hi, rfl⟩
set_option maxHeartbeats 8000000 in
theorem w_inner {l : Launch} {K : Nat} {B : Nat → Bool} {Q : Option Value → Mem → Prop} {X : XT} (hX : Cm X l 2 mX7_spread Q) (hB : HOK K B) {from_ k cur dc sc icur : Nat} (hcur : (bl B)[icur]? = some cur) (hsc : sc ≤ 1) :
    ∀ (r : List Nat) (o v0 : Nat) (st : List Nat × Vis) (ν : Mem), (bl B).drop o = r → PI B st v0 → DB B st.2 → sg01 st.2 → WR ν K (bl B) st.2 → QR ν (bl B) st.1 → st.2 cur = some (dc, sc) → o ≤ (bl B).length →
      (∀ (ν' : Mem) (w : Value), frm [8, 9, 10] ν ν' → PI B (scan K cur dc sc r st) v0 → DB B (scan K cur dc sc r st).2 → sg01 (scan K cur dc sc r st).2 → WR ν' K (bl B) (scan K cur dc sc r st).2 → QR ν' (bl B) (scan K cur dc sc r st).1 → TT X 155 [.ref 6, .int (nI from_), .int (nI (scan K cur dc sc r st).1.length), .int (nI k), .int (nI icur), w] [] ν') →
      TT X 49 [.ref 6, .int (nI from_), .int (nI st.1.length), .int (nI k), .int (nI icur), .int (nI o)] [] ν := by
  have hc := hX.cx
  have htot := tot_le hB
  have hbl := bl_len hB
  have a8 := HA8
  have a9 := HA9
  have a10 := HA10
  have hb : ∀ s ∈ bl B, s < 256 := fun s hs => (hB.2 s ((bl_mem hB).mp hs)).1
  have lc := (List.getElem?_eq_some_iff.mp hcur).1
  have Bcur := (bl_mem hB).mp (List.mem_of_getElem? hcur)
  intro r
  induction r with
  | nil =>
    intro o v0 st ν hr hPI hDB hsg hW hq hv hlen h
    have ho := drop_nil hr
    refine tt_il5 (q := 51) hc dX7_spread_49 rfl ?_
    refine tt_al0 (q := 52) hc dX7_spread_51 rfl ?_
    refine tt_getI (q := 55) hc fl_X7_31 (by first | assumption | exact ⟨by decide, _, rfl, _, rfl⟩) dX7_spread_52 rfl ?_
    rw [hW.1]
    first | (with_reducible refine chk2 ?_; refine tt_icgeN (t := 155) (q := 58) hc (by omega) (by omega) dX7_spread_55 rfl rfl (fun c_55 => ?_) (fun c_55 => ?_)) | refine tt_icge (t := 155) (q := 58) hc dX7_spread_55 rfl rfl (fun c_55 => ?_) (fun c_55 => ?_)
    · exact h ν _ frm.rf hPI hDB hsg hW hq
    · omega
  | cons s r ih =>
    intro o v0 st ν hr hPI hDB hsg hW hq hv hlen h
    obtain ⟨ho, hr2⟩ := drop_cons hr
    have lo := (List.getElem?_eq_some_iff.mp ho).1
    have Bs := (bl_mem hB).mp (List.mem_of_getElem? ho)
    have hWs := hW.2.2 o s ho
    have hWc := hW.2.2 icur cur hcur
    have hpl : st.1.length ≤ tot B := by have := hPI.1; have := cV_le (B := B) (v := st.2); omega
    rw [scan] at h
    cases hvs : st.2 s with
    | some x =>
      obtain ⟨dx, gx⟩ := x
      rw [if_neg (fun z => by rw [hvs] at z; cases z.1)] at h
      have hdx : dx < 2 ^ 31 := by have := hDB s dx gx hvs; have := cV_le (B := B) (v := st.2); omega
      refine tt_il5 (q := 51) hc dX7_spread_49 rfl ?_
      refine tt_al0 (q := 52) hc dX7_spread_51 rfl ?_
      refine tt_getI (q := 55) hc fl_X7_31 (by first | assumption | exact ⟨by decide, _, rfl, _, rfl⟩) dX7_spread_52 rfl ?_
      rw [hW.1]
      first | (with_reducible refine chk2 ?_; refine tt_icgeN (t := 155) (q := 58) hc (by omega) (by omega) dX7_spread_55 rfl rfl (fun c_55 => ?_) (fun c_55 => ?_)) | refine tt_icge (t := 155) (q := 58) hc dX7_spread_55 rfl rfl (fun c_55 => ?_) (fun c_55 => ?_)
      · omega
      · refine tt_al0 (q := 59) hc dX7_spread_58 rfl ?_
        refine tt_getR (q := 62) hc fl_X7_15 (by first | assumption | exact ⟨by decide, _, rfl, rfl⟩) dX7_spread_59 rfl ?_
        refine tt_il5 (q := 64) hc dX7_spread_62 rfl ?_
        refine tt_iald (q := 65) hc (by first | assumption | exact ⟨by decide, rfl, by decide⟩) (by omega) dX7_spread_64 rfl ?_
        rw [hWs.2.1, hvs]
        refine tt_ifge (t := 149) (q := 68) hc dX7_spread_65 rfl rfl (fun c_65 => ?_) (fun c_65 => ?_)
        · first | refine tt_inc5 (q := 152) hc dX7_spread_149 rfl (by decide) (incN _) ?_ | refine tt_inc5 (q := 152) hc dX7_spread_149 rfl (by decide) rfl ?_
          refine tt_goto (t := 49) hc dX7_spread_152 rfl ?_
          exact ih _ _ _ _ hr2 hPI hDB hsg hW hq hv (by omega) h
        · exact absurd (show (0 : Int32) ≤ nI dx from nI_pos' hdx) c_65
    | none =>
      have hlt : st.1.length < 70 := by have := hPI.1; have := cV_lt (hB.2 s Bs).1 Bs hvs; omega
      have hcs : cur ≠ s := fun e => by rw [e, hvs] at hv; cases hv
      have hne : bsd K cur s = true → 0 < alo cur s ∧ 0 < alo s cur := by
        intro z
        simp only [bsd, decide_eq_true_eq] at z
        have k1 := (hB.2 cur Bcur).2
        have k2 := (hB.2 s Bs).2
        have k3 := hB.1
        exact ⟨alo_pos (by omega), alo_pos (by rw [Nat.and_comm]; omega)⟩
      refine tt_il5 (q := 51) hc dX7_spread_49 rfl ?_
      refine tt_al0 (q := 52) hc dX7_spread_51 rfl ?_
      refine tt_getI (q := 55) hc fl_X7_31 (by first | assumption | exact ⟨by decide, _, rfl, _, rfl⟩) dX7_spread_52 rfl ?_
      rw [hW.1]
      first | (with_reducible refine chk2 ?_; refine tt_icgeN (t := 155) (q := 58) hc (by omega) (by omega) dX7_spread_55 rfl rfl (fun c_55 => ?_) (fun c_55 => ?_)) | refine tt_icge (t := 155) (q := 58) hc dX7_spread_55 rfl rfl (fun c_55 => ?_) (fun c_55 => ?_)
      · omega
      · refine tt_al0 (q := 59) hc dX7_spread_58 rfl ?_
        refine tt_getR (q := 62) hc fl_X7_15 (by first | assumption | exact ⟨by decide, _, rfl, rfl⟩) dX7_spread_59 rfl ?_
        refine tt_il5 (q := 64) hc dX7_spread_62 rfl ?_
        refine tt_iald (q := 65) hc (by first | assumption | exact ⟨by decide, rfl, by decide⟩) (by omega) dX7_spread_64 rfl ?_
        rw [hWs.2.1, hvs, show stI none = -5 from rfl]
        refine tt_ifge (t := 149) (q := 68) hc dX7_spread_65 rfl rfl (fun c_65 => ?_) (fun c_65 => ?_)
        · exact absurd c_65 (by decide)
        · refine tt_al0 (q := 69) hc dX7_spread_68 rfl ?_
          refine tt_il4 (q := 71) hc dX7_spread_69 rfl ?_
          refine tt_il5 (q := 73) hc dX7_spread_71 rfl ?_
          refine tt_cV2 (q := 76) (d' := 1) (ci := 7) hc (by decide) kmX7_beside ml_X7_44 (by first | assumption | exact ⟨by decide, _, rfl⟩) rfl (Nat.le_of_ble_eq_true rfl) dX7_spread_73 rfl ?_
          refine c_X7_beside hB.1 hW.b hb (by omega) hcur ho ?_
          dsimp only [Option.toList, List.nil_append, List.cons_append]
          first | (with_reducible refine chkb ?_; refine tt_ifeqB (t := 149) (q := 79) hc dX7_spread_76 rfl rfl (fun c_76 => ?_) (fun c_76 => ?_)) | (with_reducible refine chk1 ?_; refine tt_ifeqN (t := 149) (q := 79) hc (by omega) dX7_spread_76 rfl rfl (fun c_76 => ?_) (fun c_76 => ?_)) | refine tt_ifeq (t := 149) (q := 79) hc dX7_spread_76 rfl rfl (fun c_76 => ?_) (fun c_76 => ?_)
          · first | refine tt_inc5 (q := 152) hc dX7_spread_149 rfl (by decide) (incN _) ?_ | refine tt_inc5 (q := 152) hc dX7_spread_149 rfl (by decide) rfl ?_
            refine tt_goto (t := 49) hc dX7_spread_152 rfl ?_
            first
            | (rw [if_neg (fun z => by rw [c_76] at z; cases z.2)] at h; exact ih _ _ _ _ hr2 hPI hDB hsg hW hq hv (by omega) h)
            | rw [if_pos ⟨hvs, c_76⟩, c_115, if_neg Bool.false_ne_true] at h
              have h2 := ih (o + 1) v0 (st.1 ++ [s], vset st.2 s (dc + 1, 1 - sc)) (mset (mset (mset ν 8 (upd (ν 8) o (nI (dc + 1)))) 9 (upd (mset ν 8 (upd (ν 8) o (nI (dc + 1))) 9) o (nI (1 - sc)))) 10 (upd (mset (mset ν 8 (upd (ν 8) o (nI (dc + 1)))) 9 (upd (mset ν 8 (upd (ν 8) o (nI (dc + 1))) 9) o (nI (1 - sc))) 10) st.1.length (nI o))) hr2 (hPI.push hB Bs hvs) (hDB.set (hB.2 s Bs).1 Bs hvs (hDB cur dc sc hv)) (sg01_set hsg (by omega)) (WR.put (bl_nodup B) hW ho (by rw [mset_ne (by decide), mset_ne (by decide), mset_ne (by decide)]) (by rw [mset_ne (by decide), mset_ne (by decide), mset_ne (by decide)]) (by rw [mset_ne (by decide), mset_ne (by decide), mset_eq]) (by rw [mset_ne (by decide), mset_eq, mset_ne (by decide)])) (hq.push ho (by rw [mset_eq, mset_ne (by decide), mset_ne (by decide)])) (by show vset st.2 s _ cur = _; rw [vset_ne hcs]; exact hv) (by omega) (fun ν' w hf => h ν' w ((((frm.set (i := 8)).mono (by simp)).tr (((frm.set (i := 9)).mono (by simp)).tr ((frm.set (i := 10)).mono (by simp)))).tr hf))
              rw [List.length_append] at h2
              exact h2
            | rw [if_pos ⟨hvs, c_76⟩, c_115, if_pos rfl] at h
              have h2 := ih (o + 1) v0 (st.1 ++ [s], vset st.2 s (dc + 1, sc)) (mset (mset (mset ν 8 (upd (ν 8) o (nI (dc + 1)))) 9 (upd (mset ν 8 (upd (ν 8) o (nI (dc + 1))) 9) o (nI sc))) 10 (upd (mset (mset ν 8 (upd (ν 8) o (nI (dc + 1)))) 9 (upd (mset ν 8 (upd (ν 8) o (nI (dc + 1))) 9) o (nI sc)) 10) st.1.length (nI o))) hr2 (hPI.push hB Bs hvs) (hDB.set (hB.2 s Bs).1 Bs hvs (hDB cur dc sc hv)) (sg01_set hsg (by omega)) (WR.put (bl_nodup B) hW ho (by rw [mset_ne (by decide), mset_ne (by decide), mset_ne (by decide)]) (by rw [mset_ne (by decide), mset_ne (by decide), mset_ne (by decide)]) (by rw [mset_ne (by decide), mset_ne (by decide), mset_eq]) (by rw [mset_ne (by decide), mset_eq, mset_ne (by decide)])) (hq.push ho (by rw [mset_eq, mset_ne (by decide), mset_ne (by decide)])) (by show vset st.2 s _ cur = _; rw [vset_ne hcs]; exact hv) (by omega) (fun ν' w hf => h ν' w ((((frm.set (i := 8)).mono (by simp)).tr (((frm.set (i := 9)).mono (by simp)).tr ((frm.set (i := 10)).mono (by simp)))).tr hf))
              rw [List.length_append] at h2
              exact h2
          · refine tt_il2 (q := 80) hc dX7_spread_79 rfl ?_
            refine tt_bipush (v := nI 70) (q := 82) hc (by decide) dX7_spread_80 rfl ?_
            first | (with_reducible refine chk2 ?_; refine tt_icgeN (t := 149) (q := 85) hc (by omega) (by omega) dX7_spread_82 rfl rfl (fun c_82 => ?_) (fun c_82 => ?_)) | refine tt_icge (t := 149) (q := 85) hc dX7_spread_82 rfl rfl (fun c_82 => ?_) (fun c_82 => ?_)
            · omega
            · refine tt_al0 (q := 86) hc dX7_spread_85 rfl ?_
              refine tt_getR (q := 89) hc fl_X7_15 (by first | assumption | exact ⟨by decide, _, rfl, rfl⟩) dX7_spread_86 rfl ?_
              refine tt_il5 (q := 91) hc dX7_spread_89 rfl ?_
              refine tt_al0 (q := 92) hc dX7_spread_91 rfl ?_
              refine tt_getR (q := 95) hc fl_X7_15 (by first | assumption | exact ⟨by decide, _, rfl, rfl⟩) dX7_spread_92 rfl ?_
              refine tt_il4 (q := 97) hc dX7_spread_95 rfl ?_
              refine tt_iald (q := 98) hc (by first | assumption | exact ⟨by decide, rfl, by decide⟩) (by omega) dX7_spread_97 rfl ?_
              rw [hWc.2.1, hv, show stI (some (dc, sc)) = nI dc from rfl]
              refine tt_iconst (v := nI 1) (q := 99) hc rfl dX7_spread_98 rfl ?_
              first | (with_reducible refine chk2 ?_; refine tt_iaddN (q := 100) hc dX7_spread_99 rfl ?_) | refine tt_iadd (q := 100) hc dX7_spread_99 rfl ?_
              refine tt_iast (q := 101) hc (by first | assumption | exact ⟨by decide, rfl, by decide⟩) (by omega) dX7_spread_100 rfl ?_
              refine tt_al0 (q := 102) hc dX7_spread_101 rfl ?_
              refine tt_getR (q := 105) hc fl_X7_18 (by first | assumption | exact ⟨by decide, _, rfl, rfl⟩) dX7_spread_102 rfl ?_
              refine tt_il5 (q := 107) hc dX7_spread_105 rfl ?_
              refine tt_al0 (q := 108) hc dX7_spread_107 rfl ?_
              refine tt_il4 (q := 110) hc dX7_spread_108 rfl ?_
              refine tt_il5 (q := 112) hc dX7_spread_110 rfl ?_
              refine tt_cV2 (q := 115) (d' := 1) (ci := 7) hc (by decide) kmX7_sameSign ml_X7_48 (by first | assumption | exact ⟨by decide, _, rfl⟩) rfl (Nat.le_of_ble_eq_true rfl) dX7_spread_112 rfl ?_
              refine c_X7_sameSign (hW.b.frm (l := [8]) frm.set (by decide) (by decide)) hb (by omega) hcur ho (hne c_76).1 (hne c_76).2 ?_
              dsimp only [Option.toList, List.nil_append, List.cons_append]
              first | (with_reducible refine chkb ?_; refine tt_ifeqB (t := 128) (q := 118) hc dX7_spread_115 rfl rfl (fun c_115 => ?_) (fun c_115 => ?_)) | (with_reducible refine chk1 ?_; refine tt_ifeqN (t := 128) (q := 118) hc (by omega) dX7_spread_115 rfl rfl (fun c_115 => ?_) (fun c_115 => ?_)) | refine tt_ifeq (t := 128) (q := 118) hc dX7_spread_115 rfl rfl (fun c_115 => ?_) (fun c_115 => ?_)
              · refine tt_iconst (v := nI 1) (q := 129) hc rfl dX7_spread_128 rfl ?_
                refine tt_al0 (q := 130) hc dX7_spread_129 rfl ?_
                refine tt_getR (q := 133) hc fl_X7_18 (by first | assumption | exact ⟨by decide, _, rfl, rfl⟩) dX7_spread_130 rfl ?_
                refine tt_il4 (q := 135) hc dX7_spread_133 rfl ?_
                refine tt_iald (q := 136) hc (by first | assumption | exact ⟨by decide, rfl, by decide⟩) (by omega) dX7_spread_135 rfl ?_
                rw [mset_ne (by decide), hWc.2.2 _ _ hv]
                first | (with_reducible refine chk2 ?_; refine tt_isubN (q := 137) hc (by omega) dX7_spread_136 rfl ?_) | refine tt_isub (q := 137) hc dX7_spread_136 rfl ?_
                refine tt_iast (q := 138) hc (by first | assumption | exact ⟨by decide, rfl, by decide⟩) (by omega) dX7_spread_137 rfl ?_
                refine tt_al0 (q := 139) hc dX7_spread_138 rfl ?_
                refine tt_getR (q := 142) hc fl_X7_21 (by first | assumption | exact ⟨by decide, _, rfl, rfl⟩) dX7_spread_139 rfl ?_
                refine tt_il2 (q := 143) hc dX7_spread_142 rfl ?_
                refine tt_il5 (q := 145) hc dX7_spread_143 rfl ?_
                refine tt_iast (q := 146) hc (by first | assumption | exact ⟨by decide, rfl, by decide⟩) (by omega) dX7_spread_145 rfl ?_
                first | refine tt_inc2 (q := 149) hc dX7_spread_146 rfl (by decide) (incN _) ?_ | refine tt_inc2 (q := 149) hc dX7_spread_146 rfl (by decide) rfl ?_
                first | refine tt_inc5 (q := 152) hc dX7_spread_149 rfl (by decide) (incN _) ?_ | refine tt_inc5 (q := 152) hc dX7_spread_149 rfl (by decide) rfl ?_
                refine tt_goto (t := 49) hc dX7_spread_152 rfl ?_
                first
                | (rw [if_neg (fun z => by rw [c_76] at z; cases z.2)] at h; exact ih _ _ _ _ hr2 hPI hDB hsg hW hq hv (by omega) h)
                | rw [if_pos ⟨hvs, c_76⟩, c_115, if_neg Bool.false_ne_true] at h
                  have h2 := ih (o + 1) v0 (st.1 ++ [s], vset st.2 s (dc + 1, 1 - sc)) (mset (mset (mset ν 8 (upd (ν 8) o (nI (dc + 1)))) 9 (upd (mset ν 8 (upd (ν 8) o (nI (dc + 1))) 9) o (nI (1 - sc)))) 10 (upd (mset (mset ν 8 (upd (ν 8) o (nI (dc + 1)))) 9 (upd (mset ν 8 (upd (ν 8) o (nI (dc + 1))) 9) o (nI (1 - sc))) 10) st.1.length (nI o))) hr2 (hPI.push hB Bs hvs) (hDB.set (hB.2 s Bs).1 Bs hvs (hDB cur dc sc hv)) (sg01_set hsg (by omega)) (WR.put (bl_nodup B) hW ho (by rw [mset_ne (by decide), mset_ne (by decide), mset_ne (by decide)]) (by rw [mset_ne (by decide), mset_ne (by decide), mset_ne (by decide)]) (by rw [mset_ne (by decide), mset_ne (by decide), mset_eq]) (by rw [mset_ne (by decide), mset_eq, mset_ne (by decide)])) (hq.push ho (by rw [mset_eq, mset_ne (by decide), mset_ne (by decide)])) (by show vset st.2 s _ cur = _; rw [vset_ne hcs]; exact hv) (by omega) (fun ν' w hf => h ν' w ((((frm.set (i := 8)).mono (by simp)).tr (((frm.set (i := 9)).mono (by simp)).tr ((frm.set (i := 10)).mono (by simp)))).tr hf))
                  rw [List.length_append] at h2
                  exact h2
                | rw [if_pos ⟨hvs, c_76⟩, c_115, if_pos rfl] at h
                  have h2 := ih (o + 1) v0 (st.1 ++ [s], vset st.2 s (dc + 1, sc)) (mset (mset (mset ν 8 (upd (ν 8) o (nI (dc + 1)))) 9 (upd (mset ν 8 (upd (ν 8) o (nI (dc + 1))) 9) o (nI sc))) 10 (upd (mset (mset ν 8 (upd (ν 8) o (nI (dc + 1)))) 9 (upd (mset ν 8 (upd (ν 8) o (nI (dc + 1))) 9) o (nI sc)) 10) st.1.length (nI o))) hr2 (hPI.push hB Bs hvs) (hDB.set (hB.2 s Bs).1 Bs hvs (hDB cur dc sc hv)) (sg01_set hsg (by omega)) (WR.put (bl_nodup B) hW ho (by rw [mset_ne (by decide), mset_ne (by decide), mset_ne (by decide)]) (by rw [mset_ne (by decide), mset_ne (by decide), mset_ne (by decide)]) (by rw [mset_ne (by decide), mset_ne (by decide), mset_eq]) (by rw [mset_ne (by decide), mset_eq, mset_ne (by decide)])) (hq.push ho (by rw [mset_eq, mset_ne (by decide), mset_ne (by decide)])) (by show vset st.2 s _ cur = _; rw [vset_ne hcs]; exact hv) (by omega) (fun ν' w hf => h ν' w ((((frm.set (i := 8)).mono (by simp)).tr (((frm.set (i := 9)).mono (by simp)).tr ((frm.set (i := 10)).mono (by simp)))).tr hf))
                  rw [List.length_append] at h2
                  exact h2
              · refine tt_al0 (q := 119) hc dX7_spread_118 rfl ?_
                refine tt_getR (q := 122) hc fl_X7_18 (by first | assumption | exact ⟨by decide, _, rfl, rfl⟩) dX7_spread_119 rfl ?_
                refine tt_il4 (q := 124) hc dX7_spread_122 rfl ?_
                refine tt_iald (q := 125) hc (by first | assumption | exact ⟨by decide, rfl, by decide⟩) (by omega) dX7_spread_124 rfl ?_
                rw [mset_ne (by decide), hWc.2.2 _ _ hv]
                refine tt_goto (t := 137) hc dX7_spread_125 rfl ?_
                refine tt_iast (q := 138) hc (by first | assumption | exact ⟨by decide, rfl, by decide⟩) (by omega) dX7_spread_137 rfl ?_
                refine tt_al0 (q := 139) hc dX7_spread_138 rfl ?_
                refine tt_getR (q := 142) hc fl_X7_21 (by first | assumption | exact ⟨by decide, _, rfl, rfl⟩) dX7_spread_139 rfl ?_
                refine tt_il2 (q := 143) hc dX7_spread_142 rfl ?_
                refine tt_il5 (q := 145) hc dX7_spread_143 rfl ?_
                refine tt_iast (q := 146) hc (by first | assumption | exact ⟨by decide, rfl, by decide⟩) (by omega) dX7_spread_145 rfl ?_
                first | refine tt_inc2 (q := 149) hc dX7_spread_146 rfl (by decide) (incN _) ?_ | refine tt_inc2 (q := 149) hc dX7_spread_146 rfl (by decide) rfl ?_
                first | refine tt_inc5 (q := 152) hc dX7_spread_149 rfl (by decide) (incN _) ?_ | refine tt_inc5 (q := 152) hc dX7_spread_149 rfl (by decide) rfl ?_
                refine tt_goto (t := 49) hc dX7_spread_152 rfl ?_
                first
                | (rw [if_neg (fun z => by rw [c_76] at z; cases z.2)] at h; exact ih _ _ _ _ hr2 hPI hDB hsg hW hq hv (by omega) h)
                | rw [if_pos ⟨hvs, c_76⟩, c_115, if_neg Bool.false_ne_true] at h
                  have h2 := ih (o + 1) v0 (st.1 ++ [s], vset st.2 s (dc + 1, 1 - sc)) (mset (mset (mset ν 8 (upd (ν 8) o (nI (dc + 1)))) 9 (upd (mset ν 8 (upd (ν 8) o (nI (dc + 1))) 9) o (nI (1 - sc)))) 10 (upd (mset (mset ν 8 (upd (ν 8) o (nI (dc + 1)))) 9 (upd (mset ν 8 (upd (ν 8) o (nI (dc + 1))) 9) o (nI (1 - sc))) 10) st.1.length (nI o))) hr2 (hPI.push hB Bs hvs) (hDB.set (hB.2 s Bs).1 Bs hvs (hDB cur dc sc hv)) (sg01_set hsg (by omega)) (WR.put (bl_nodup B) hW ho (by rw [mset_ne (by decide), mset_ne (by decide), mset_ne (by decide)]) (by rw [mset_ne (by decide), mset_ne (by decide), mset_ne (by decide)]) (by rw [mset_ne (by decide), mset_ne (by decide), mset_eq]) (by rw [mset_ne (by decide), mset_eq, mset_ne (by decide)])) (hq.push ho (by rw [mset_eq, mset_ne (by decide), mset_ne (by decide)])) (by show vset st.2 s _ cur = _; rw [vset_ne hcs]; exact hv) (by omega) (fun ν' w hf => h ν' w ((((frm.set (i := 8)).mono (by simp)).tr (((frm.set (i := 9)).mono (by simp)).tr ((frm.set (i := 10)).mono (by simp)))).tr hf))
                  rw [List.length_append] at h2
                  exact h2
                | rw [if_pos ⟨hvs, c_76⟩, c_115, if_pos rfl] at h
                  have h2 := ih (o + 1) v0 (st.1 ++ [s], vset st.2 s (dc + 1, sc)) (mset (mset (mset ν 8 (upd (ν 8) o (nI (dc + 1)))) 9 (upd (mset ν 8 (upd (ν 8) o (nI (dc + 1))) 9) o (nI sc))) 10 (upd (mset (mset ν 8 (upd (ν 8) o (nI (dc + 1)))) 9 (upd (mset ν 8 (upd (ν 8) o (nI (dc + 1))) 9) o (nI sc)) 10) st.1.length (nI o))) hr2 (hPI.push hB Bs hvs) (hDB.set (hB.2 s Bs).1 Bs hvs (hDB cur dc sc hv)) (sg01_set hsg (by omega)) (WR.put (bl_nodup B) hW ho (by rw [mset_ne (by decide), mset_ne (by decide), mset_ne (by decide)]) (by rw [mset_ne (by decide), mset_ne (by decide), mset_ne (by decide)]) (by rw [mset_ne (by decide), mset_ne (by decide), mset_eq]) (by rw [mset_ne (by decide), mset_eq, mset_ne (by decide)])) (hq.push ho (by rw [mset_eq, mset_ne (by decide), mset_ne (by decide)])) (by show vset st.2 s _ cur = _; rw [vset_ne hcs]; exact hv) (by omega) (fun ν' w hf => h ν' w ((((frm.set (i := 8)).mono (by simp)).tr (((frm.set (i := 9)).mono (by simp)).tr ((frm.set (i := 10)).mono (by simp)))).tr hf))
                  rw [List.length_append] at h2
                  exact h2
set_option maxHeartbeats 8000000 in
theorem w_outer {l : Launch} {K : Nat} {B : Nat → Bool} {Q : Option Value → Mem → Prop} {X : XT} (hX : Cm X l 2 mX7_spread Q) (hB : HOK K B) {from_ : Nat} :
    ∀ (f k v0 : Nat) (st : List Nat × Vis) (ν : Mem) (w4 w5 : Value), k + f = 256 → PI B st v0 → DB B st.2 → sg01 st.2 → WR ν K (bl B) st.2 → QR ν (bl B) st.1 →
      (∀ (ν' : Mem), frm [8, 9, 10] ν ν' → PI B (bfs K (bl B) f k st) v0 → DB B (bfs K (bl B) f k st).2 → sg01 (bfs K (bl B) f k st).2 → WR ν' K (bl B) (bfs K (bl B) f k st).2 → Q none ν') →
      TT X 25 [.ref 6, .int (nI from_), .int (nI st.1.length), .int (nI k), w4, w5] [] ν := by
  have hc := hX.cx
  have htot := tot_le hB
  have hbl := bl_len hB
  have a10 := HA10
  have hb : ∀ s ∈ bl B, s < 256 := fun s hs => (hB.2 s ((bl_mem hB).mp hs)).1
  intro f
  induction f with
  | zero =>
    intro k v0 st ν w4 w5 hk hPI hDB hsg hW hq h
    have hpl : st.1.length ≤ tot B := by have := hPI.1; have := cV_le (B := B) (v := st.2); omega
    refine tt_il3 (q := 26) hc dX7_spread_25 rfl ?_
    refine tt_al0 (q := 27) hc dX7_spread_26 rfl ?_
    refine tt_getI (q := 30) hc fl_X7_31 (by first | assumption | exact ⟨by decide, _, rfl, _, rfl⟩) dX7_spread_27 rfl ?_
    rw [hW.1]
    first | (with_reducible refine chk2 ?_; refine tt_icgeN (t := 161) (q := 33) hc (by omega) (by omega) dX7_spread_30 rfl rfl (fun c_30 => ?_) (fun c_30 => ?_)) | refine tt_icge (t := 161) (q := 33) hc dX7_spread_30 rfl rfl (fun c_30 => ?_) (fun c_30 => ?_)
    · refine tt_retv hX rfl dX7_spread_161 ?_
      exact h ν frm.rf hPI hDB hsg hW
    · omega
  | succ f ih =>
    intro k v0 st ν w4 w5 hk hPI hDB hsg hW hq h
    have hpl : st.1.length ≤ tot B := by have := hPI.1; have := cV_le (B := B) (v := st.2); omega
    rw [bfs] at h
    by_cases hkl : k < st.1.length
    · have e1 : st.1[k]? = some st.1[k] := List.getElem?_eq_getElem hkl
      obtain ⟨Bc, ⟨dc, sc⟩, hv⟩ := hPI.2 _ (List.mem_of_getElem? e1)
      obtain ⟨ic, hic, hq10⟩ := hq k _ e1
      have lic := (List.getElem?_eq_some_iff.mp hic).1
      simp only [e1, hv] at h
      refine tt_il3 (q := 26) hc dX7_spread_25 rfl ?_
      refine tt_al0 (q := 27) hc dX7_spread_26 rfl ?_
      refine tt_getI (q := 30) hc fl_X7_31 (by first | assumption | exact ⟨by decide, _, rfl, _, rfl⟩) dX7_spread_27 rfl ?_
      rw [hW.1]
      first | (with_reducible refine chk2 ?_; refine tt_icgeN (t := 161) (q := 33) hc (by omega) (by omega) dX7_spread_30 rfl rfl (fun c_30 => ?_) (fun c_30 => ?_)) | refine tt_icge (t := 161) (q := 33) hc dX7_spread_30 rfl rfl (fun c_30 => ?_) (fun c_30 => ?_)
      · omega
      · refine tt_il3 (q := 34) hc dX7_spread_33 rfl ?_
        refine tt_il2 (q := 35) hc dX7_spread_34 rfl ?_
        first | (with_reducible refine chk2 ?_; refine tt_icgeN (t := 161) (q := 38) hc (by omega) (by omega) dX7_spread_35 rfl rfl (fun c_35 => ?_) (fun c_35 => ?_)) | refine tt_icge (t := 161) (q := 38) hc dX7_spread_35 rfl rfl (fun c_35 => ?_) (fun c_35 => ?_)
        · omega
        · refine tt_al0 (q := 39) hc dX7_spread_38 rfl ?_
          refine tt_getR (q := 42) hc fl_X7_21 (by first | assumption | exact ⟨by decide, _, rfl, rfl⟩) dX7_spread_39 rfl ?_
          refine tt_il3 (q := 43) hc dX7_spread_42 rfl ?_
          refine tt_ialdE (q := 44) hc a10 (by omega) hq10 dX7_spread_43 rfl ?_
          refine tt_is4 (q := 46) hc dX7_spread_44 rfl (by decide) ?_
          refine tt_iconst (v := nI 0) (q := 47) hc rfl dX7_spread_46 rfl ?_
          refine tt_is5 (q := 49) hc dX7_spread_47 rfl (by decide) ?_
          refine w_inner hX hB hic (hsg _ _ _ hv) (bl B) 0 v0 st ν rfl hPI hDB hsg hW hq hv (Nat.zero_le _) (fun ν' w hf i1 i2 i3 i4 i5 => ?_)
          refine tt_inc3 (q := 158) hc dX7_spread_155 rfl (by decide) (incN _) ?_
          refine tt_goto (t := 25) hc dX7_spread_158 rfl ?_
          exact ih (k + 1) v0 _ ν' _ _ (by omega) i1 i2 i3 i4 i5 (fun ν'' hf'' => h ν'' (hf.tr hf''))
    · have e1 : st.1[k]? = none := List.getElem?_eq_none (by omega)
      simp only [e1] at h
      refine tt_il3 (q := 26) hc dX7_spread_25 rfl ?_
      refine tt_al0 (q := 27) hc dX7_spread_26 rfl ?_
      refine tt_getI (q := 30) hc fl_X7_31 (by first | assumption | exact ⟨by decide, _, rfl, _, rfl⟩) dX7_spread_27 rfl ?_
      rw [hW.1]
      first | (with_reducible refine chk2 ?_; refine tt_icgeN (t := 161) (q := 33) hc (by omega) (by omega) dX7_spread_30 rfl rfl (fun c_30 => ?_) (fun c_30 => ?_)) | refine tt_icge (t := 161) (q := 33) hc dX7_spread_30 rfl rfl (fun c_30 => ?_) (fun c_30 => ?_)
      · refine tt_retv hX rfl dX7_spread_161 ?_
        exact h ν frm.rf hPI hDB hsg hW
      · refine tt_il3 (q := 34) hc dX7_spread_33 rfl ?_
        refine tt_il2 (q := 35) hc dX7_spread_34 rfl ?_
        first | (with_reducible refine chk2 ?_; refine tt_icgeN (t := 161) (q := 38) hc (by omega) (by omega) dX7_spread_35 rfl rfl (fun c_35 => ?_) (fun c_35 => ?_)) | refine tt_icge (t := 161) (q := 38) hc dX7_spread_35 rfl rfl (fun c_35 => ?_) (fun c_35 => ?_)
        · refine tt_retv hX rfl dX7_spread_161 ?_
          exact h ν frm.rf hPI hDB hsg hW
        · omega
set_option maxHeartbeats 8000000 in
theorem c_X7_spread {l : Launch} {K : Nat} {B : Nat → Bool} {v : Vis} {i0 s0 : Nat} {μ : Mem} {Q : Option Value → Mem → Prop} (hB : HOK K B) (hi : (bl B)[i0]? = some s0) (hv : v s0 = none) (hDB : DB B v) (hsg : sg01 v) (hW : WR μ K (bl B) v) (hQ : ∀ ν', frm [8, 9, 10] μ ν' → DB B (bfsR K (bl B) v s0) → sg01 (bfsR K (bl B) v s0) → WR ν' K (bl B) (bfsR K (bl B) v s0) → Q none ν') : CC l 2 mX7_spread [.ref 6, .int (nI i0)] μ Q := by
  refine CC.of (M := mX7_spread) (by decide +kernel) rfl (fun v h => by simp at h; rcases h with rfl | rfl <;> rfl) (Nat.le_of_ble_eq_true rfl) (fun X hX => ?_)
  have hc := hX.cx
  have htot := tot_le hB
  have hbl := bl_len hB
  have a8 := HA8
  have a9 := HA9
  have a10 := HA10
  have li := (List.getElem?_eq_some_iff.mp hi).1
  have Bs := (bl_mem hB).mp (List.mem_of_getElem? hi)
  have hlt := (hB.2 s0 Bs).1
  refine tt_al0 (q := 1) hc dX7_spread_0 rfl ?_
  refine tt_getR (q := 4) hc fl_X7_15 (by first | assumption | exact ⟨by decide, _, rfl, rfl⟩) dX7_spread_1 rfl ?_
  refine tt_il1 (q := 5) hc dX7_spread_4 rfl ?_
  refine tt_iconst (v := nI 0) (q := 6) hc rfl dX7_spread_5 rfl ?_
  refine tt_iast (q := 7) hc (by first | assumption | exact ⟨by decide, rfl, by decide⟩) (by omega) dX7_spread_6 rfl ?_
  refine tt_al0 (q := 8) hc dX7_spread_7 rfl ?_
  refine tt_getR (q := 11) hc fl_X7_18 (by first | assumption | exact ⟨by decide, _, rfl, rfl⟩) dX7_spread_8 rfl ?_
  refine tt_il1 (q := 12) hc dX7_spread_11 rfl ?_
  refine tt_iconst (v := nI 0) (q := 13) hc rfl dX7_spread_12 rfl ?_
  refine tt_iast (q := 14) hc (by first | assumption | exact ⟨by decide, rfl, by decide⟩) (by omega) dX7_spread_13 rfl ?_
  refine tt_al0 (q := 15) hc dX7_spread_14 rfl ?_
  refine tt_getR (q := 18) hc fl_X7_21 (by first | assumption | exact ⟨by decide, _, rfl, rfl⟩) dX7_spread_15 rfl ?_
  refine tt_iconst (v := nI 0) (q := 19) hc rfl dX7_spread_18 rfl ?_
  refine tt_il1 (q := 20) hc dX7_spread_19 rfl ?_
  refine tt_iast (q := 21) hc (by first | assumption | exact ⟨by decide, rfl, by decide⟩) (by omega) dX7_spread_20 rfl ?_
  refine tt_iconst (v := nI 1) (q := 22) hc rfl dX7_spread_21 rfl ?_
  refine tt_is2 (q := 23) hc dX7_spread_22 rfl (by decide) ?_
  refine tt_iconst (v := nI 0) (q := 24) hc rfl dX7_spread_23 rfl ?_
  refine tt_is3 (q := 25) hc dX7_spread_24 rfl (by decide) ?_
  refine w_outer hX hB 256 0 (cV B v) ([s0], vset v s0 (0, 0)) _ _ _ rfl ⟨?_, fun t ht => ?_⟩ (hDB.set hlt Bs hv (Nat.zero_le _)) (sg01_set hsg (by decide)) (WR.put (bl_nodup B) hW hi ?_ ?_ ?_ ?_) (fun k s hk => ?_) (fun ν' hf i1 i2 i3 i4 => hQ ν' ((((frm.set (i := 8)).mono (by simp)).tr (((frm.set (i := 9)).mono (by simp)).tr ((frm.set (i := 10)).mono (by simp)))).tr hf) i2 i3 i4)
  · rw [cV_set hlt Bs hv]
    simp
    omega
  · have e := List.mem_singleton.mp ht
    rw [e]
    exact ⟨Bs, _, vset_eq⟩
  · rw [mset_ne (by decide), mset_ne (by decide), mset_ne (by decide)]
  · rw [mset_ne (by decide), mset_ne (by decide), mset_ne (by decide)]
  · rw [mset_ne (by decide), mset_ne (by decide), mset_eq]
  · rw [mset_ne (by decide), mset_eq, mset_ne (by decide)]
  · cases k with
    | zero =>
      simp only [List.getElem?_cons_zero, Option.some.injEq] at hk
      exact ⟨i0, by rw [hi, hk], by rw [mset_eq, pk_us]⟩
    | succ k => simp at hk
