/-! HEAP: what changes it -/
theorem nxs_eq {b s : Nat} (hb : b < 256) (hs : s < 256) : (nI s - nI 1) &&& nI b = nI (nxs b s) := by
  by_cases h : s = 0
  · subst h
    rw [show nI 0 - nI 1 = -1 from rfl, Int32.and_comm]
    simp only [nxs, if_true]
    apply Int32.toBitVec_inj.1
    show BitVec.ofNat 32 b &&& BitVec.allOnes 32 = BitVec.ofNat 32 b
    rw [BitVec.and_allOnes]
  · rw [pk_sub (by omega), nx_and, nxs, if_neg h]
theorem nxs_lt {b s : Nat} (hb : b < 256) : nxs b s < 256 := by
  unfold nxs
  split
  · exact hb
  · exact Nat.lt_of_le_of_lt Nat.and_le_right hb
theorem sbsK {K b : Nat} (hK : K = 3 ∨ K = 4) (hb : b < 256) (hp : pop b = K) : (sbs b (2 ^ K) b).Nodup ∧ ∀ s, s < 256 → (s ∈ sbs b (2 ^ K) b ↔ b &&& s = s) := by
  rcases hK with rfl | rfl
  · exact sbs3 b hb hp
  · exact sbs4 b hb hp
set_option maxHeartbeats 4000000 in
theorem c_X0_toggle {l : Launch} {j K b : Nat} (hj : j < 16) {B : Nat → Bool} {μ : Mem} {Q : Option Value → Mem → Prop} (hR : RC μ j K B) (hb : b < 256) (hp : pop b = K) (hQ : ∀ μ', frm [40 + 2 * j + 1] μ μ' → RC μ' j K (tog B b) → Q none μ') : CC l 0 mX0_toggle [.ref (40 + 2 * j), .int (nI b)] μ Q := by
  refine CC.of (M := mX0_toggle) (by decide +kernel) rfl (fun v h => by simp at h; rcases h with rfl | rfl <;> rfl) (Nat.le_of_ble_eq_true rfl) (fun X hX => ?_)
  have hc := hX.cx
  have hw : HR (40 + 2 * j) 0 1 (40 + 2 * j + 1) := ⟨by omega, _, sh_ho hj, rfl⟩
  have hk : HI (40 + 2 * j) 0 0 := ⟨by omega, _, sh_ho hj, _, rfl⟩
  have hA : HA (40 + 2 * j + 1) 0 256 := ⟨by omega, sh_hw hj, by decide⟩
  have hK := hR.1.1
  have hc2 := cW_le B b
  have h2K : 2 ^ K ≤ 16 := by rcases hK with rfl | rfl <;> decide
  have L : ∀ (more : Int32) (n s i : Nat) (ν : Mem), s < 256 → i + n = 2 ^ K → (sbs b n s).Nodup → (∀ ν', frm [40 + 2 * j + 1] ν ν' → (∀ t, t < 256 → ν' (40 + 2 * j + 1) t = ν (40 + 2 * j + 1) t + (if t ∈ sbs b n s then more else 0)) → Q none ν') → TT X 28 [.ref (40 + 2 * j), .int (nI b), .int more, .int (nI (2 ^ K)), .int (nI s), .int (nI i)] [] ν := by
    intro more n
    induction n with
    | zero =>
      intro s i ν hs hi hn h
      refine tt_il5 (q := 30) hc dX0_toggle_28 rfl ?_
      refine tt_il3 (q := 31) hc dX0_toggle_30 rfl ?_
      first | (with_reducible refine chk2 ?_; refine tt_icgeN (t := 59) (q := 34) hc (by omega) (by omega) dX0_toggle_31 rfl rfl (fun c_31 => ?_) (fun c_31 => ?_)) | refine tt_icge (t := 59) (q := 34) hc dX0_toggle_31 rfl rfl (fun c_31 => ?_) (fun c_31 => ?_)
      · refine tt_retv hX rfl dX0_toggle_59 ?_
        exact h ν frm.rf (fun t _ => by simp [sbs])
      · omega
    | succ n ih =>
      intro s i ν hs hi hn h
      have hx := nxs_lt (s := s) hb
      refine tt_il5 (q := 30) hc dX0_toggle_28 rfl ?_
      refine tt_il3 (q := 31) hc dX0_toggle_30 rfl ?_
      first | (with_reducible refine chk2 ?_; refine tt_icgeN (t := 59) (q := 34) hc (by omega) (by omega) dX0_toggle_31 rfl rfl (fun c_31 => ?_) (fun c_31 => ?_)) | refine tt_icge (t := 59) (q := 34) hc dX0_toggle_31 rfl rfl (fun c_31 => ?_) (fun c_31 => ?_)
      · omega
      · refine tt_al0 (q := 35) hc dX0_toggle_34 rfl ?_
        refine tt_getR (q := 38) hc fl_X0_15 (by first | assumption | exact ⟨by decide, _, rfl, rfl⟩) dX0_toggle_35 rfl ?_
        refine tt_il4 (q := 40) hc dX0_toggle_38 rfl ?_
        refine tt_dup2 (q := 41) hc rfl rfl dX0_toggle_40 rfl ?_
        refine tt_iald (q := 42) hc (by first | assumption | exact ⟨by decide, rfl, by decide⟩) (by omega) dX0_toggle_41 rfl ?_
        refine tt_il2 (q := 43) hc dX0_toggle_42 rfl ?_
        first | (with_reducible refine chk2 ?_; refine tt_iaddN (q := 44) hc dX0_toggle_43 rfl ?_) | refine tt_iadd (q := 44) hc dX0_toggle_43 rfl ?_
        refine tt_iast (q := 45) hc (by first | assumption | exact ⟨by decide, rfl, by decide⟩) (by omega) dX0_toggle_44 rfl ?_
        refine tt_il4 (q := 47) hc dX0_toggle_45 rfl ?_
        refine tt_iconst (v := nI 1) (q := 48) hc rfl dX0_toggle_47 rfl ?_
        first | (with_reducible refine chk2 ?_; refine tt_isubN (q := 49) hc (by omega) dX0_toggle_48 rfl ?_) | refine tt_isub (q := 49) hc dX0_toggle_48 rfl ?_
        refine tt_il1 (q := 50) hc dX0_toggle_49 rfl ?_
        first | (with_reducible refine chk2 ?_; refine tt_iandN (q := 51) hc dX0_toggle_50 rfl ?_) | (with_reducible refine chkan ?_; refine tt_iandnN (q := 51) hc dX0_toggle_50 rfl ?_) | (with_reducible refine chkna ?_; refine tt_inandN (q := 51) hc dX0_toggle_50 rfl ?_) | refine tt_iand (q := 51) hc dX0_toggle_50 rfl ?_
        rw [nxs_eq hb hs]
        refine tt_is4 (q := 53) hc dX0_toggle_51 rfl (by decide) ?_
        first | refine tt_inc5 (q := 56) hc dX0_toggle_53 rfl (by decide) (incN _) ?_ | refine tt_inc5 (q := 56) hc dX0_toggle_53 rfl (by decide) rfl ?_
        refine tt_goto (t := 28) hc dX0_toggle_56 rfl ?_
        refine ih _ _ _ hx (by omega) (List.nodup_cons.mp hn).2 (fun ν' hf hv => h ν' (frm.set.tr hf) (fun t ht => ?_))
        have h0 := (List.nodup_cons.mp hn).1
        rw [hv t ht, mset_eq]
        by_cases e : t = s
        · subst e
          rw [pk_us]
          simp only [sbs, List.mem_cons, true_or, if_true, if_neg h0, Int32.add_zero]
        · rw [pk_un e]
          simp only [sbs, List.mem_cons, e, false_or]
  have fin : ∀ (more : Int32), (∀ t, t < 256 → b &&& t = t → nI (cW B t) + more = nI (cW (tog B b) t)) → ∀ ν', frm [40 + 2 * j + 1] μ ν' → (∀ t, t < 256 → ν' (40 + 2 * j + 1) t = μ (40 + 2 * j + 1) t + (if t ∈ sbs b (2 ^ K) b then more else 0)) → Q none ν' := by
    intro more hm ν' hf hv
    refine hQ ν' hf ⟨tog_ok hR.1 hb hp, by rw [hf _ (by simp)]; exact hR.2.1, fun t ht => ?_⟩
    rw [hv t ht, hR.2.2 t ht]
    have hs := (sbsK hK hb hp).2 t ht
    by_cases e : b &&& t = t
    · rw [if_pos (hs.mpr e)]
      exact hm t ht e
    · rw [if_neg (fun z => e (hs.mp z)), cW_tog hb, if_neg e, Int32.add_zero]
  have hBb : cW B b = if B b = true then 1 else 0 := cW_body hR.1 hb hp
  refine tt_al0 (q := 1) hc dX0_toggle_0 rfl ?_
  refine tt_getR (q := 4) hc fl_X0_15 (by first | assumption | exact ⟨by decide, _, rfl, rfl⟩) dX0_toggle_1 rfl ?_
  refine tt_il1 (q := 5) hc dX0_toggle_4 rfl ?_
  refine tt_iald (q := 6) hc (by first | assumption | exact ⟨by decide, rfl, by decide⟩) (by omega) dX0_toggle_5 rfl ?_
  rw [hR.2.2 b hb]
  first | (with_reducible refine chk1 ?_; refine tt_ifleN (t := 13) (q := 9) hc (by omega) dX0_toggle_6 rfl rfl (fun c_6 => ?_) (fun c_6 => ?_)) | refine tt_ifle (t := 13) (q := 9) hc dX0_toggle_6 rfl rfl (fun c_6 => ?_) (fun c_6 => ?_)
  · refine tt_iconst (v := nI 1) (q := 14) hc rfl dX0_toggle_13 rfl ?_
    refine tt_is2 (q := 15) hc dX0_toggle_14 rfl (by decide) ?_
    refine tt_iconst (v := nI 1) (q := 16) hc rfl dX0_toggle_15 rfl ?_
    refine tt_al0 (q := 17) hc dX0_toggle_16 rfl ?_
    refine tt_getI (q := 20) hc fl_X0_9 (by first | assumption | exact ⟨by decide, _, rfl, _, rfl⟩) dX0_toggle_17 rfl ?_
    rw [hR.2.1]
    first | (with_reducible refine chks ?_; refine tt_ishl1 (q := 21) hc (by omega) dX0_toggle_20 rfl ?_) | (with_reducible refine chk2 ?_; refine tt_ishlN (q := 21) hc (by omega) (by omega) dX0_toggle_20 rfl ?_) | refine tt_ishl (q := 21) hc dX0_toggle_20 rfl ?_
    refine tt_is3 (q := 22) hc dX0_toggle_21 rfl (by decide) ?_
    refine tt_il1 (q := 23) hc dX0_toggle_22 rfl ?_
    refine tt_is4 (q := 25) hc dX0_toggle_23 rfl (by decide) ?_
    refine tt_iconst (v := nI 0) (q := 26) hc rfl dX0_toggle_25 rfl ?_
    refine tt_is5 (q := 28) hc dX0_toggle_26 rfl (by decide) ?_
    first
    | refine L (nI 1) (2 ^ K) b 0 μ hb (by omega) (sbsK hK hb hp).1 (fin _ (fun t ht e => ?_))
      have hB : B b = false := by cases h : B b; rfl; rw [h] at hBb; simp at hBb; omega
      rw [cW_tog hb, if_pos e, hB, nI_add]
      rfl
    | refine L (-1) (2 ^ K) b 0 μ hb (by omega) (sbsK hK hb hp).1 (fin _ (fun t ht e => ?_))
      have hB : B b = true := by cases h : B b; rw [h] at hBb; simp at hBb; omega; rfl
      have hpos : 0 < cW B t := cW_pos.mpr ⟨b, hb, hB, e⟩
      rw [cW_tog hb, if_pos e, if_pos hB]
      obtain ⟨k, hk⟩ : ∃ k, cW B t = k + 1 := ⟨cW B t - 1, by omega⟩
      rw [hk, pk_m1]
      rfl
  · refine tt_iconst (v := -1) (q := 10) hc rfl dX0_toggle_9 rfl ?_
    refine tt_goto (t := 14) hc dX0_toggle_10 rfl ?_
    refine tt_is2 (q := 15) hc dX0_toggle_14 rfl (by decide) ?_
    refine tt_iconst (v := nI 1) (q := 16) hc rfl dX0_toggle_15 rfl ?_
    refine tt_al0 (q := 17) hc dX0_toggle_16 rfl ?_
    refine tt_getI (q := 20) hc fl_X0_9 (by first | assumption | exact ⟨by decide, _, rfl, _, rfl⟩) dX0_toggle_17 rfl ?_
    rw [hR.2.1]
    first | (with_reducible refine chks ?_; refine tt_ishl1 (q := 21) hc (by omega) dX0_toggle_20 rfl ?_) | (with_reducible refine chk2 ?_; refine tt_ishlN (q := 21) hc (by omega) (by omega) dX0_toggle_20 rfl ?_) | refine tt_ishl (q := 21) hc dX0_toggle_20 rfl ?_
    refine tt_is3 (q := 22) hc dX0_toggle_21 rfl (by decide) ?_
    refine tt_il1 (q := 23) hc dX0_toggle_22 rfl ?_
    refine tt_is4 (q := 25) hc dX0_toggle_23 rfl (by decide) ?_
    refine tt_iconst (v := nI 0) (q := 26) hc rfl dX0_toggle_25 rfl ?_
    refine tt_is5 (q := 28) hc dX0_toggle_26 rfl (by decide) ?_
    first
    | refine L (nI 1) (2 ^ K) b 0 μ hb (by omega) (sbsK hK hb hp).1 (fin _ (fun t ht e => ?_))
      have hB : B b = false := by cases h : B b; rfl; rw [h] at hBb; simp at hBb; omega
      rw [cW_tog hb, if_pos e, hB, nI_add]
      rfl
    | refine L (-1) (2 ^ K) b 0 μ hb (by omega) (sbsK hK hb hp).1 (fin _ (fun t ht e => ?_))
      have hB : B b = true := by cases h : B b; rw [h] at hBb; simp at hBb; omega; rfl
      have hpos : 0 < cW B t := cW_pos.mpr ⟨b, hb, hB, e⟩
      rw [cW_tog hb, if_pos e, if_pos hB]
      obtain ⟨k, hk⟩ : ∃ k, cW B t = k + 1 := ⟨cW B t - 1, by omega⟩
      rw [hk, pk_m1]
      rfl
