/-! THE MODEL: what a word does lets the words stand -/
def wdf (μ ν : Mem) : Prop := ν 39 = μ 39 ∧ ν 25 = μ 25 ∧ ν 24 21 = μ 24 21
theorem wdf.rf {μ : Mem} : wdf μ μ := ⟨rfl, rfl, rfl⟩
theorem wdf.tr {μ ν ρ : Mem} (h1 : wdf μ ν) (h2 : wdf ν ρ) : wdf μ ρ := ⟨h2.1.trans h1.1, h2.2.1.trans h1.2.1, h2.2.2.trans h1.2.2⟩
theorem mg.wd {l p : List Nat} {μ ν : Mem} (h : mg l p μ ν) (h1 : 39 ∉ l) (h2 : 25 ∉ l) (h3 : 21 ∉ p) : wdf μ ν := ⟨h.1 39 h1 (by decide), h.1 25 h2 (by decide), h.2 21 h3⟩
theorem mg.mf {l : List Nat} {μ ν : Mem} (h : mg l [4] μ ν) : mf l μ ν := ⟨h.1, fun k hk => h.2 k (by simp at hk; simp; omega)⟩
set_option maxHeartbeats 8000000 in
theorem c_X9_layFacesG {l : Launch} {a K : Nat} {B : HP} {μ : Mem} {Q : Option Value → Mem → Prop} (hA : HA a 1 256) (ha : 77 ≤ a ∧ a ≠ 78) (hK : HOK K B) (hB : BA μ a B) (hQ : ∀ μ', mg [26, 78] [4] μ μ' → FA μ' B → Q none μ') : CC l 0 mX9_layFaces [.ref 24, .ref a] μ Q := by
  refine CC.of (M := mX9_layFaces) (by decide +kernel) rfl (fun v h => by simp at h; rcases h with rfl | rfl <;> rfl) (Nat.le_of_ble_eq_true rfl) (fun X hX => ?_)
  have hc := hX.cx
  have a78 := HA78
  have a26 := HA26
  have I : ∀ (b : Nat), b < 256 → ∀ (n s : Nat) (ν : Mem), s < 256 → sbE b n s = 0 → (sbs b n s).Nodup → (∀ t ∈ sbs b n s, ¬ t = 0) → (∀ ν', frm [26, 78] ν ν' → (∀ t, t < 256 → ν' 78 t = (if t ∈ sbs b n s then 1 else ν 78 t)) → (∀ t, t < 256 → ν' 26 t = ν 26 t + (if t ∈ sbs b n s then 1 else 0)) → TT X 94 [.ref 24, .ref a, .int (nI b), .int 0] [] ν') → TT X 64 [.ref 24, .ref a, .int (nI b), .int (nI s)] [] ν := by
    intro b hb n
    induction n with
    | zero =>
      intro s ν hs h0 hn hz h
      rw [sbE] at h0
      subst h0
      refine tt_il3 (q := 65) hc dX9_layFaces_64 rfl ?_
      first | (with_reducible refine chk1 ?_; refine tt_ifleN (t := 94) (q := 68) hc (by omega) dX9_layFaces_65 rfl rfl (fun c_65 => ?_) (fun c_65 => ?_)) | refine tt_ifle (t := 94) (q := 68) hc dX9_layFaces_65 rfl rfl (fun c_65 => ?_) (fun c_65 => ?_)
      · exact h ν frm.rf (fun t _ => by simp [sbs]) (fun t _ => by simp [sbs])
      · omega
    | succ n ih =>
      intro s ν hs h0 hn hz h
      have hs0 := hz s (by simp [sbs])
      have hx := nxs_lt (s := s) hb
      have hnn := List.nodup_cons.mp hn
      refine tt_il3 (q := 65) hc dX9_layFaces_64 rfl ?_
      first | (with_reducible refine chk1 ?_; refine tt_ifleN (t := 94) (q := 68) hc (by omega) dX9_layFaces_65 rfl rfl (fun c_65 => ?_) (fun c_65 => ?_)) | refine tt_ifle (t := 94) (q := 68) hc dX9_layFaces_65 rfl rfl (fun c_65 => ?_) (fun c_65 => ?_)
      · omega
      · refine tt_al0 (q := 69) hc dX9_layFaces_68 rfl ?_
        refine tt_getR (q := 72) hc fl_X9_19 (by first | assumption | exact ⟨by decide, _, rfl, rfl⟩) dX9_layFaces_69 rfl ?_
        refine tt_il3 (q := 73) hc dX9_layFaces_72 rfl ?_
        refine tt_iconst (v := nI 1) (q := 74) hc rfl dX9_layFaces_73 rfl ?_
        refine tt_zast (q := 75) hc (by first | assumption | exact ⟨by decide, rfl, by decide⟩) (by omega) (by first | decide | exact bI_01 _) dX9_layFaces_74 rfl ?_
        refine tt_al0 (q := 76) hc dX9_layFaces_75 rfl ?_
        refine tt_getR (q := 79) hc fl_X9_22 (by first | assumption | exact ⟨by decide, _, rfl, rfl⟩) dX9_layFaces_76 rfl ?_
        refine tt_il3 (q := 80) hc dX9_layFaces_79 rfl ?_
        refine tt_dup2 (q := 81) hc rfl rfl dX9_layFaces_80 rfl ?_
        refine tt_iald (q := 82) hc (by first | assumption | exact ⟨by decide, rfl, by decide⟩) (by omega) dX9_layFaces_81 rfl ?_
        refine tt_iconst (v := nI 1) (q := 83) hc rfl dX9_layFaces_82 rfl ?_
        first | (with_reducible refine chk2 ?_; refine tt_iaddN (q := 84) hc dX9_layFaces_83 rfl ?_) | refine tt_iadd (q := 84) hc dX9_layFaces_83 rfl ?_
        refine tt_iast (q := 85) hc (by first | assumption | exact ⟨by decide, rfl, by decide⟩) (by omega) dX9_layFaces_84 rfl ?_
        refine tt_il3 (q := 86) hc dX9_layFaces_85 rfl ?_
        refine tt_iconst (v := nI 1) (q := 87) hc rfl dX9_layFaces_86 rfl ?_
        first | (with_reducible refine chk2 ?_; refine tt_isubN (q := 88) hc (by omega) dX9_layFaces_87 rfl ?_) | refine tt_isub (q := 88) hc dX9_layFaces_87 rfl ?_
        refine tt_il2 (q := 89) hc dX9_layFaces_88 rfl ?_
        first | (with_reducible refine chk2 ?_; refine tt_iandN (q := 90) hc dX9_layFaces_89 rfl ?_) | (with_reducible refine chkan ?_; refine tt_iandnN (q := 90) hc dX9_layFaces_89 rfl ?_) | (with_reducible refine chkna ?_; refine tt_inandN (q := 90) hc dX9_layFaces_89 rfl ?_) | refine tt_iand (q := 90) hc dX9_layFaces_89 rfl ?_
        rw [show (s - 1) &&& b = nxs b s by rw [nxs, if_neg hs0]]
        refine tt_is3 (q := 91) hc dX9_layFaces_90 rfl (by decide) ?_
        refine tt_goto (t := 64) hc dX9_layFaces_91 rfl ?_
        refine ih (nxs b s) _ hx (by rw [sbE] at h0; exact h0) hnn.2 (fun t ht => hz t (List.mem_cons_of_mem _ ht)) (fun ν' hf h78 h26 => h ν' (((frm.set (i := 78)).mono (by simp)).tr (((frm.set (i := 26)).mono (by simp)).tr hf)) (fun t ht => ?_) (fun t ht => ?_))
        · rw [h78 t ht]
          show (if t ∈ sbs b n (nxs b s) then 1 else upd (ν 78) s 1 t) = _
          by_cases e : t = s
          · subst e
            rw [pk_us]
            simp only [sbs, List.mem_cons, true_or, if_true, if_neg hnn.1]
          · rw [pk_un e]
            simp only [sbs, List.mem_cons, e, false_or]
        · rw [h26 t ht]
          show upd (ν 26) s (ν 26 s + 1) t + (if t ∈ sbs b n (nxs b s) then 1 else 0) = _
          by_cases e : t = s
          · subst e
            rw [pk_us]
            simp only [sbs, List.mem_cons, true_or, if_true, if_neg hnn.1, Int32.add_zero]
          · rw [pk_un e]
            simp only [sbs, List.mem_cons, e, false_or]
  have J : ∀ (m b : Nat) (ν : Mem) (w3 : Value), b + m = 256 → FAp ν B b → BA ν a B → mg [26, 78] [4] μ ν → TT X 36 [.ref 24, .ref a, .int (nI b), w3] [] ν := by
    intro m
    induction m with
    | zero =>
      intro b ν w3 hb hF hB hm
      have hb : b = 256 := by omega
      subst hb
      refine tt_il2 (q := 37) hc dX9_layFaces_36 rfl ?_
      refine tt_sipush (v := nI 256) (q := 40) hc (by decide) dX9_layFaces_37 rfl ?_
      first | (with_reducible refine chk2 ?_; refine tt_icgeN (t := 100) (q := 43) hc (by omega) (by omega) dX9_layFaces_40 rfl rfl (fun c_40 => ?_) (fun c_40 => ?_)) | refine tt_icge (t := 100) (q := 43) hc dX9_layFaces_40 rfl rfl (fun c_40 => ?_) (fun c_40 => ?_)
      · refine tt_retv hX rfl dX9_layFaces_100 ?_
        exact hQ ν hm hF
      · omega
    | succ m ih =>
      intro b ν w3 hb hF hB hm
      have hor := orB_lt (B := B) b (by omega)
      have E : ∀ (ν' : Mem) (w : Value), FAp ν' B (b + 1) → BA ν' a B → mg [26, 78] [4] μ ν' → TT X 94 [.ref 24, .ref a, .int (nI b), w] [] ν' := by
        intro ν' w h1 h2 h3
        first | refine tt_inc2 (q := 97) hc dX9_layFaces_94 rfl (by decide) (incN _) ?_ | refine tt_inc2 (q := 97) hc dX9_layFaces_94 rfl (by decide) rfl ?_
        refine tt_goto (t := 36) hc dX9_layFaces_97 rfl ?_
        exact ih (b + 1) ν' _ (by omega) h1 h2 h3
      refine tt_il2 (q := 37) hc dX9_layFaces_36 rfl ?_
      refine tt_sipush (v := nI 256) (q := 40) hc (by decide) dX9_layFaces_37 rfl ?_
      first | (with_reducible refine chk2 ?_; refine tt_icgeN (t := 100) (q := 43) hc (by omega) (by omega) dX9_layFaces_40 rfl rfl (fun c_40 => ?_) (fun c_40 => ?_)) | refine tt_icge (t := 100) (q := 43) hc dX9_layFaces_40 rfl rfl (fun c_40 => ?_) (fun c_40 => ?_)
      · omega
      · refine tt_al1 (q := 44) hc dX9_layFaces_43 rfl ?_
        refine tt_il2 (q := 45) hc dX9_layFaces_44 rfl ?_
        refine tt_zald (q := 46) hc (by first | assumption | exact ⟨by decide, rfl, by decide⟩) (by omega) dX9_layFaces_45 rfl ?_
        rw [hB b (by omega)]
        first | (with_reducible refine chkb ?_; refine tt_ifneB (t := 52) (q := 49) hc dX9_layFaces_46 rfl rfl (fun c_46 => ?_) (fun c_46 => ?_)) | (with_reducible refine chk1 ?_; refine tt_ifneN (t := 52) (q := 49) hc (by omega) dX9_layFaces_46 rfl rfl (fun c_46 => ?_) (fun c_46 => ?_)) | refine tt_ifne (t := 52) (q := 49) hc dX9_layFaces_46 rfl rfl (fun c_46 => ?_) (fun c_46 => ?_)
        · refine tt_al0 (q := 53) hc dX9_layFaces_52 rfl ?_
          refine tt_dup (q := 54) hc rfl dX9_layFaces_53 rfl ?_
          refine tt_getI (q := 57) hc fl_X9_107 (by first | assumption | exact ⟨by decide, _, rfl, _, rfl⟩) dX9_layFaces_54 rfl ?_
          rw [hF.2.2]
          refine tt_il2 (q := 58) hc dX9_layFaces_57 rfl ?_
          first | (with_reducible refine chk2 ?_; refine tt_iorN (q := 59) hc dX9_layFaces_58 rfl ?_) | refine tt_ior (q := 59) hc dX9_layFaces_58 rfl ?_
          refine tt_putI (q := 62) hc fp_X9_107 (by first | assumption | exact ⟨by decide, _, rfl, _, rfl⟩) dX9_layFaces_59 rfl ?_
          refine tt_il2 (q := 63) hc dX9_layFaces_62 rfl ?_
          refine tt_is3 (q := 64) hc dX9_layFaces_63 rfl (by decide) ?_
          obtain ⟨n, n1, n2, n3⟩ := sbz hK.1 (show b < 256 by omega) (hK.2 b c_46).2
          refine I b (by omega) n b _ (by omega) n2 n1 (fun t ht => ?_) (fun ν' hf h78 h26 => E ν' _ ?_ ?_ ?_)
          · exact ((n3 t (sbs_lt b n b t (by omega) (by omega) ht)).mp ht).2
          · exact FAp_yes (μ := ν) hF c_46 (by omega) n3 h78 h26 (by rw [hf 24 (by decide)]; rfl)
          · exact (hB.mg (mg.own (l := [26, 78]) (p := [4]) (by decide)) (by simp; omega) (by omega)).mg (mg.fr (p := [4]) hf (by decide)) (by simp; omega) (by omega)
          · exact hm.tr ((mg.own (by decide)).tr (mg.fr hf (by decide)))
        · refine tt_goto (t := 94) hc dX9_layFaces_49 rfl ?_
          exact E ν _ (FAp_no hF c_46) hB hm
  have C : ∀ (m s : Nat) (ν : Mem) (w3 : Value), s + m = 256 → ν 24 4 = 0 → (∀ t, t < s → ν 78 t = 0 ∧ ν 26 t = 0) → BA ν a B → mg [26, 78] [4] μ ν → TT X 7 [.ref 24, .ref a, .int (nI s), w3] [] ν := by
    intro m
    induction m with
    | zero =>
      intro s ν w3 hs h4 hz hB hm
      have hs : s = 256 := by omega
      subst hs
      have hB0 : B 0 = false := by
        cases h : B 0
        · rfl
        · have h1 := hK.2 0 h
          have h2 := hK.1
          have h3 : pop 0 = 0 := by decide
          omega
      refine tt_il2 (q := 8) hc dX9_layFaces_7 rfl ?_
      refine tt_sipush (v := nI 256) (q := 11) hc (by decide) dX9_layFaces_8 rfl ?_
      first | (with_reducible refine chk2 ?_; refine tt_icgeN (t := 34) (q := 14) hc (by omega) (by omega) dX9_layFaces_11 rfl rfl (fun c_11 => ?_) (fun c_11 => ?_)) | refine tt_icge (t := 34) (q := 14) hc dX9_layFaces_11 rfl rfl (fun c_11 => ?_) (fun c_11 => ?_)
      · refine tt_iconst (v := nI 1) (q := 35) hc rfl dX9_layFaces_34 rfl ?_
        refine tt_is2 (q := 36) hc dX9_layFaces_35 rfl (by decide) ?_
        exact J 255 1 ν _ rfl (FAp_no ⟨fun t ht => by rw [(hz t ht).1, cWp, cnt]; simp [bI], fun t _ ht => (hz t ht).2, h4⟩ hB0) hB hm
      · omega
    | succ m ih =>
      intro s ν w3 hs h4 hz hB hm
      refine tt_il2 (q := 8) hc dX9_layFaces_7 rfl ?_
      refine tt_sipush (v := nI 256) (q := 11) hc (by decide) dX9_layFaces_8 rfl ?_
      first | (with_reducible refine chk2 ?_; refine tt_icgeN (t := 34) (q := 14) hc (by omega) (by omega) dX9_layFaces_11 rfl rfl (fun c_11 => ?_) (fun c_11 => ?_)) | refine tt_icge (t := 34) (q := 14) hc dX9_layFaces_11 rfl rfl (fun c_11 => ?_) (fun c_11 => ?_)
      · omega
      · refine tt_al0 (q := 15) hc dX9_layFaces_14 rfl ?_
        refine tt_getR (q := 18) hc fl_X9_19 (by first | assumption | exact ⟨by decide, _, rfl, rfl⟩) dX9_layFaces_15 rfl ?_
        refine tt_il2 (q := 19) hc dX9_layFaces_18 rfl ?_
        refine tt_iconst (v := nI 0) (q := 20) hc rfl dX9_layFaces_19 rfl ?_
        refine tt_zast (q := 21) hc (by first | assumption | exact ⟨by decide, rfl, by decide⟩) (by omega) (by first | decide | exact bI_01 _) dX9_layFaces_20 rfl ?_
        refine tt_al0 (q := 22) hc dX9_layFaces_21 rfl ?_
        refine tt_getR (q := 25) hc fl_X9_22 (by first | assumption | exact ⟨by decide, _, rfl, rfl⟩) dX9_layFaces_22 rfl ?_
        refine tt_il2 (q := 26) hc dX9_layFaces_25 rfl ?_
        refine tt_iconst (v := nI 0) (q := 27) hc rfl dX9_layFaces_26 rfl ?_
        refine tt_iast (q := 28) hc (by first | assumption | exact ⟨by decide, rfl, by decide⟩) (by omega) dX9_layFaces_27 rfl ?_
        first | refine tt_inc2 (q := 31) hc dX9_layFaces_28 rfl (by decide) (incN _) ?_ | refine tt_inc2 (q := 31) hc dX9_layFaces_28 rfl (by decide) rfl ?_
        refine tt_goto (t := 7) hc dX9_layFaces_31 rfl ?_
        have hf : frm [26, 78] ν (mset (mset ν 78 (upd (ν 78) s 0)) 26 (upd (ν 26) s 0)) := ((frm.set (i := 78)).mono (by simp)).tr ((frm.set (i := 26)).mono (by simp))
        refine ih (s + 1) _ _ (by omega) h4 (fun t ht => ?_) (hB.mg (mg.fr (p := [4]) hf (by decide)) (by simp; omega) (by omega)) (hm.tr (mg.fr hf (by decide)))
        show upd (ν 78) s 0 t = 0 ∧ upd (ν 26) s 0 t = 0
        by_cases e : t = s
        · subst e
          rw [pk_us, pk_us]
          exact ⟨rfl, rfl⟩
        · rw [pk_un e, pk_un e]
          exact hz t (by omega)
  refine tt_al0 (q := 1) hc dX9_layFaces_0 rfl ?_
  refine tt_iconst (v := nI 0) (q := 2) hc rfl dX9_layFaces_1 rfl ?_
  refine tt_putI (q := 5) hc fp_X9_107 (by first | assumption | exact ⟨by decide, _, rfl, _, rfl⟩) dX9_layFaces_2 rfl ?_
  refine tt_iconst (v := nI 0) (q := 6) hc rfl dX9_layFaces_5 rfl ?_
  refine tt_is2 (q := 7) hc dX9_layFaces_6 rfl (by decide) ?_
  exact C 256 0 _ _ rfl rfl (fun t ht => absurd ht (Nat.not_lt_zero _)) (hB.mg (mg.own (l := [26, 78]) (p := [4]) (by decide)) (by simp; omega) (by omega)) (mg.own (by decide))

set_option maxHeartbeats 1000000 in
theorem c_X9_layFlipsG {l : Launch} {c d K : Nat} {B : HP} {μ : Mem} {Q : Option Value → Mem → Prop} (hA : HA c 1 256) (hcc : 77 ≤ c ∧ c ≠ 78 ∧ c < 100) (hd : d < 4) (hK : HOK K B) (hB : BA μ c B) (hz : μ 24 0 = nI K) (hQ : ∀ μ', mg (lfL d) [4] μ μ' → (∀ j, j ≠ d → μ' 32 j = μ 32 j) → FA μ' B → FL μ' d K B → Q none μ') : CC l 3 mX9_layFlips [.ref 24, .ref c, .int (nI d)] μ Q := by
  refine CC.of (M := mX9_layFlips) (by decide +kernel) rfl (fun v h => by simp at h; rcases h with rfl | rfl | rfl <;> rfl) (Nat.le_of_ble_eq_true rfl) (fun X hX => ?_)
  have hc := hX.cx
  have q30 := HQ30
  have q31 := HQ31
  have a32 := HA32
  have aA := HAf (j := d) (by omega)
  have aB := HAg hd
  have hl2 := fl_len K B
  have L : ∀ (ν0 : Mem), mg [26, 78] [4] μ ν0 → FA ν0 B → ∀ (m s : Nat) (dn : List Nat) (ν : Mem) (w : Value), s + m = 256 → 0 < s → dn ++ flF K B m s = fl K B → frm [100 + d, 104 + d] ν0 ν → (∀ i a, dn[i]? = some a → ν (100 + d) i = nI a ∧ ν (104 + d) i = nI (prt K B a)) → TT X 10 [.ref 24, .ref c, .int (nI d), .int (nI dn.length), .int (nI s), w] [] ν := by
    intro ν0 hf0 hF0 m
    induction m with
    | zero =>
      intro s dn ν w hs h0 hdn hf hv
      rw [flF, List.append_nil] at hdn
      refine tt_il4 (q := 12) hc dX9_layFlips_10 rfl ?_
      refine tt_sipush (v := nI 256) (q := 15) hc (by decide) dX9_layFlips_12 rfl ?_
      first | (with_reducible refine chk2 ?_; refine tt_icgeN (t := 63) (q := 18) hc (by omega) (by omega) dX9_layFlips_15 rfl rfl (fun c_15 => ?_) (fun c_15 => ?_)) | refine tt_icge (t := 63) (q := 18) hc dX9_layFlips_15 rfl rfl (fun c_15 => ?_) (fun c_15 => ?_)
      · refine tt_al0 (q := 64) hc dX9_layFlips_63 rfl ?_
        refine tt_getR (q := 67) hc fl_X9_45 (by first | assumption | exact ⟨by decide, _, rfl, rfl⟩) dX9_layFlips_64 rfl ?_
        refine tt_il2 (q := 68) hc dX9_layFlips_67 rfl ?_
        refine tt_il3 (q := 69) hc dX9_layFlips_68 rfl ?_
        refine tt_iast (q := 70) hc (by first | assumption | exact ⟨by decide, rfl, by decide⟩) (by omega) dX9_layFlips_69 rfl ?_
        refine tt_retv hX rfl dX9_layFlips_70 ?_
        have hf2 : frm [32, 100 + d, 104 + d] ν0 (mset ν 32 (upd (ν 32) d (nI dn.length))) := (hf.mono (fun i hi => List.mem_cons_of_mem _ hi)).tr (frm.set.mono (fun i hi => by rw [List.mem_singleton.mp hi]; exact List.mem_cons_self))
        refine hQ _ ((hf0.mono (fun i hi => ?_) (fun i hi => hi)).tr (mg.fr (hf2.mono (fun i hi => ?_)) ?_)) (fun j hj => ?_) (hF0.fr hf2 (by simp; omega) (by simp; omega) (by simp; omega)) ⟨?_, fun i a hi => ?_⟩
        · simp [lfL] at hi ⊢
          omega
        · simp [lfL] at hi ⊢
          omega
        · simp [lfL]
          omega
        · rw [mset_eq, pk_un hj, hf 32 (by simp; omega), hf0.1 32 (by decide) (by decide)]
        · rw [mset_eq, pk_us, hdn]
        · rw [← hdn] at hi
          rw [mset_ne (by omega), mset_ne (by omega)]
          exact hv i a hi
      · omega
    | succ m ih =>
      intro s dn ν w hs h0 hdn hf hv
      have hp := prt_lt K B s
      have hF := hF0.fr hf (by simp; omega) (by simp; omega) (by simp; omega)
      have hz2 : ν 24 0 = nI K := by rw [hf 24 (by simp; omega), hf0.2 0 (by decide)]; exact hz
      rw [flF] at hdn
      refine tt_il4 (q := 12) hc dX9_layFlips_10 rfl ?_
      refine tt_sipush (v := nI 256) (q := 15) hc (by decide) dX9_layFlips_12 rfl ?_
      first | (with_reducible refine chk2 ?_; refine tt_icgeN (t := 63) (q := 18) hc (by omega) (by omega) dX9_layFlips_15 rfl rfl (fun c_15 => ?_) (fun c_15 => ?_)) | refine tt_icge (t := 63) (q := 18) hc dX9_layFlips_15 rfl rfl (fun c_15 => ?_) (fun c_15 => ?_)
      · omega
      · refine tt_al0 (q := 19) hc dX9_layFlips_18 rfl ?_
        refine tt_il4 (q := 21) hc dX9_layFlips_19 rfl ?_
        refine tt_cV1 (q := 24) (d' := 2) (ci := 9) hc (by first | decide | omega) kmX9_forWhat ml_X9_200 (by first | assumption | exact ⟨by decide, _, rfl⟩) rfl (Nat.le_of_ble_eq_true rfl) dX9_layFlips_21 rfl ?_
        refine c_X9_forWhat hK hF hz2 h0 (by omega) ?_
        dsimp only [Option.toList, List.nil_append, List.cons_append]
        refine tt_is5 (q := 26) hc dX9_layFlips_24 rfl (by decide) ?_
        refine tt_il5 (q := 28) hc dX9_layFlips_26 rfl ?_
        first | (with_reducible refine chkb ?_; refine tt_ifneB (t := 34) (q := 31) hc dX9_layFlips_28 rfl rfl (fun c_28 => ?_) (fun c_28 => ?_)) | (with_reducible refine chk1 ?_; refine tt_ifneN (t := 34) (q := 31) hc (by omega) dX9_layFlips_28 rfl rfl (fun c_28 => ?_) (fun c_28 => ?_)) | refine tt_ifne (t := 34) (q := 31) hc dX9_layFlips_28 rfl rfl (fun c_28 => ?_) (fun c_28 => ?_)
        · rw [if_neg (by omega)] at hdn
          have hl := congrArg List.length hdn
          rw [List.length_append, List.length_cons] at hl
          refine tt_al0 (q := 35) hc dX9_layFlips_34 rfl ?_
          refine tt_getR (q := 38) hc fl_X9_39 (by first | assumption | exact ⟨by decide, _, rfl, rfl⟩) dX9_layFlips_35 rfl ?_
          refine tt_il2 (q := 39) hc dX9_layFlips_38 rfl ?_
          refine tt_aald (q := 40) hc (r := _) (by first | assumption | exact ⟨by decide, rfl, by decide⟩) (by decide) (by omega) dX9_layFlips_39 rfl ?_
          refine tt_il3 (q := 41) hc dX9_layFlips_40 rfl ?_
          refine tt_il4 (q := 43) hc dX9_layFlips_41 rfl ?_
          refine tt_iast (q := 44) hc (by first | assumption | exact ⟨by decide, rfl, by decide⟩) (by omega) dX9_layFlips_43 rfl ?_
          refine tt_al0 (q := 45) hc dX9_layFlips_44 rfl ?_
          refine tt_getR (q := 48) hc fl_X9_42 (by first | assumption | exact ⟨by decide, _, rfl, rfl⟩) dX9_layFlips_45 rfl ?_
          refine tt_il2 (q := 49) hc dX9_layFlips_48 rfl ?_
          refine tt_aald (q := 50) hc (r := _) (by first | assumption | exact ⟨by decide, rfl, by decide⟩) (by decide) (by omega) dX9_layFlips_49 rfl ?_
          refine tt_il3 (q := 51) hc dX9_layFlips_50 rfl ?_
          refine tt_il5 (q := 53) hc dX9_layFlips_51 rfl ?_
          refine tt_iast (q := 54) hc (by first | assumption | exact ⟨by decide, rfl, by decide⟩) (by omega) dX9_layFlips_53 rfl ?_
          first | refine tt_inc3 (q := 57) hc dX9_layFlips_54 rfl (by decide) (incN _) ?_ | refine tt_inc3 (q := 57) hc dX9_layFlips_54 rfl (by decide) rfl ?_
          first | refine tt_inc4 (q := 60) hc dX9_layFlips_57 rfl (by decide) (incN _) ?_ | refine tt_inc4 (q := 60) hc dX9_layFlips_57 rfl (by decide) rfl ?_
          refine tt_goto (t := 10) hc dX9_layFlips_60 rfl ?_
          first
          | (rw [if_pos c_28] at hdn; exact ih (s + 1) dn ν _ (by omega) (by omega) hdn hf hv)
          | (rw [← snoc_len dn s]
             refine ih (s + 1) (dn ++ [s]) _ _ (by omega) (by omega) (by rw [snoc_app]; exact hdn) ((hf.tr (frm.set.mono (fun i hi => by rw [List.mem_singleton.mp hi]; exact List.mem_cons_self))).tr (frm.set.mono (fun i hi => by rw [List.mem_singleton.mp hi]; exact List.mem_cons_of_mem _ List.mem_cons_self))) (fun i a hi => ?_)
             have hi2 := (List.getElem?_eq_some_iff.mp hi).1
             rw [snoc_len] at hi2
             rw [mset_eq, mset_ne (show 104 + d ≠ 100 + d by omega), mset_ne (show 100 + d ≠ 104 + d by omega), mset_eq]
             by_cases e : i < dn.length
             · rw [List.getElem?_append_left e] at hi
               rw [pk_un (by omega), pk_un (by omega)]
               exact hv i a hi
             · have e2 : i = dn.length := by omega
               subst e2
               rw [List.getElem?_append_right (Nat.le_refl _), Nat.sub_self] at hi
               simp only [List.getElem?_cons_zero, Option.some.injEq] at hi
               subst hi
               rw [pk_us, pk_us]
               exact ⟨rfl, rfl⟩)
        · refine tt_goto (t := 57) hc dX9_layFlips_31 rfl ?_
          first | refine tt_inc4 (q := 60) hc dX9_layFlips_57 rfl (by decide) (incN _) ?_ | refine tt_inc4 (q := 60) hc dX9_layFlips_57 rfl (by decide) rfl ?_
          refine tt_goto (t := 10) hc dX9_layFlips_60 rfl ?_
          first
          | (rw [if_pos c_28] at hdn; exact ih (s + 1) dn ν _ (by omega) (by omega) hdn hf hv)
          | (rw [← snoc_len dn s]
             refine ih (s + 1) (dn ++ [s]) _ _ (by omega) (by omega) (by rw [snoc_app]; exact hdn) ((hf.tr (frm.set.mono (fun i hi => by rw [List.mem_singleton.mp hi]; exact List.mem_cons_self))).tr (frm.set.mono (fun i hi => by rw [List.mem_singleton.mp hi]; exact List.mem_cons_of_mem _ List.mem_cons_self))) (fun i a hi => ?_)
             have hi2 := (List.getElem?_eq_some_iff.mp hi).1
             rw [snoc_len] at hi2
             rw [mset_eq, mset_ne (show 104 + d ≠ 100 + d by omega), mset_ne (show 100 + d ≠ 104 + d by omega), mset_eq]
             by_cases e : i < dn.length
             · rw [List.getElem?_append_left e] at hi
               rw [pk_un (by omega), pk_un (by omega)]
               exact hv i a hi
             · have e2 : i = dn.length := by omega
               subst e2
               rw [List.getElem?_append_right (Nat.le_refl _), Nat.sub_self] at hi
               simp only [List.getElem?_cons_zero, Option.some.injEq] at hi
               subst hi
               rw [pk_us, pk_us]
               exact ⟨rfl, rfl⟩)
  refine tt_al0 (q := 1) hc dX9_layFlips_0 rfl ?_
  refine tt_al1 (q := 2) hc dX9_layFlips_1 rfl ?_
  refine tt_cV1 (q := 5) (d' := 0) (ci := 9) hc (by first | decide | omega) kmX9_layFaces ml_X9_150 (by first | assumption | exact ⟨by decide, _, rfl⟩) rfl (Nat.le_of_ble_eq_true rfl) dX9_layFlips_2 rfl ?_
  refine c_X9_layFacesG hA (by omega) hK hB (fun ν0 hf0 hF0 => ?_)
  dsimp only [Option.toList, List.nil_append, List.cons_append]
  refine tt_iconst (v := nI 0) (q := 6) hc rfl dX9_layFlips_5 rfl ?_
  refine tt_is3 (q := 7) hc dX9_layFlips_6 rfl (by decide) ?_
  refine tt_iconst (v := nI 1) (q := 8) hc rfl dX9_layFlips_7 rfl ?_
  refine tt_is4 (q := 10) hc dX9_layFlips_8 rfl (by decide) ?_
  exact L ν0 hf0 hF0 255 1 [] ν0 _ rfl (by decide) (fl_nil K B) frm.rf (fun i a hi => by simp at hi)
set_option maxHeartbeats 8000000 in
theorem c_X9_bodyW {l : Launch} {v : Int32} {S : ST} {μ : Mem} {Q : Option Value → Mem → Prop} (hM : MR μ S) (hQ : ∀ μ', frm mL μ μ' → wdf μ μ' → MR μ' (sp_body v S).2 → Q (some (.int (sp_body v S).1)) μ') : CC l 3 mX9_body [.ref 24, .int v] μ Q := by
  refine CC.of (M := mX9_body) (by decide +kernel) rfl (fun v h => by simp at h; rcases h with rfl | rfl <;> rfl) (Nat.le_of_ble_eq_true rfl) (fun X hX => ?_)
  have hc := hX.cx
  obtain ⟨K, B, hs, ks, im, ls, tx, pp⟩ := S
  obtain ⟨⟨a0, a1, a2⟩, a3, a4, a5, a6, a7, a8⟩ := id hM
  have a77 := HA77
  dsimp only [sp_body] at hQ
  have G : ∀ (n : Nat) (ν : Mem), n < 256 → pop n = K → v = nI n → mg stL [6] μ ν → MP ν K (nt B hs) → inB (nI n) (nI 0) (nI 255) = true → TT X 14 [.ref 24, .int (nI n)] [] ν := by
    intro n ν hn hp hv hf hP hin
    subst hv
    rw [if_pos ⟨hin, by rw [nI_clamp (by omega)]; exact hp⟩, nI_clamp (by omega)] at hQ
    have hB := a2.mg hf (by decide) (by decide)
    have hK := tog_ok a0 hn hp
    have D : ∀ (ν' : Mem), frm [77] ν ν' → BA ν' 77 (tog B n) → TT X 34 [.ref 24, .int (nI n)] [] ν' := by
      intro ν' hf' hB'
      have hm : mg (77 :: stL) [6] μ ν' := (hf.mono (fun i hi => List.mem_cons_of_mem _ hi) (fun i hi => hi)).tr ((mg.fr hf' (by decide)).mono (fun i hi => by rw [List.mem_singleton.mp hi]; exact List.mem_cons_self) (fun i hi => hi))
      refine tt_al0 (q := 35) hc dX9_body_34 rfl ?_
      refine tt_getR (q := 38) hc fl_X9_15 (by first | assumption | exact ⟨by decide, _, rfl, rfl⟩) dX9_body_35 rfl ?_
      refine tt_cS1 (q := 41) (d' := 0) hc (by first | decide | omega) kmX9_bodiesOf ml_X9_140 (Nat.le_of_ble_eq_true rfl) dX9_body_38 rfl ?_
      refine c_X9_bodiesOf a77 hK hB' ?_
      dsimp only [Option.toList, List.nil_append, List.cons_append]
      refine tt_reti hX rfl dX9_body_41 ?_
      exact hQ ν' (hm.ml (by decide)) (hm.wd (by decide) (by decide) (by decide)) (hM.step hm (hP.mg (mg.fr (p := [4]) hf' (by decide)) (by decide) (by decide)) hK hB')
    refine tt_al0 (q := 15) hc dX9_body_14 rfl ?_
    refine tt_getR (q := 18) hc fl_X9_15 (by first | assumption | exact ⟨by decide, _, rfl, rfl⟩) dX9_body_15 rfl ?_
    refine tt_il1 (q := 19) hc dX9_body_18 rfl ?_
    refine tt_al0 (q := 20) hc dX9_body_19 rfl ?_
    refine tt_getR (q := 23) hc fl_X9_15 (by first | assumption | exact ⟨by decide, _, rfl, rfl⟩) dX9_body_20 rfl ?_
    refine tt_il1 (q := 24) hc dX9_body_23 rfl ?_
    refine tt_zald (q := 25) hc (by first | assumption | exact ⟨by decide, rfl, by decide⟩) (by omega) dX9_body_24 rfl ?_
    rw [hB n hn]
    first | (with_reducible refine chkb ?_; refine tt_ifneB (t := 32) (q := 28) hc dX9_body_25 rfl rfl (fun c_25 => ?_) (fun c_25 => ?_)) | (with_reducible refine chk1 ?_; refine tt_ifneN (t := 32) (q := 28) hc (by omega) dX9_body_25 rfl rfl (fun c_25 => ?_) (fun c_25 => ?_)) | refine tt_ifne (t := 32) (q := 28) hc dX9_body_25 rfl rfl (fun c_25 => ?_) (fun c_25 => ?_)
    · refine tt_iconst (v := nI 0) (q := 33) hc rfl dX9_body_32 rfl ?_
      refine tt_zast (q := 34) hc (by first | assumption | exact ⟨by decide, rfl, by decide⟩) (by omega) (by first | decide | exact bI_01 _) dX9_body_33 rfl ?_
      first
      | exact D _ frm.set (tog_ba hB (by rw [c_25]; rfl))
    · refine tt_iconst (v := nI 1) (q := 29) hc rfl dX9_body_28 rfl ?_
      refine tt_goto (t := 33) hc dX9_body_29 rfl ?_
      refine tt_zast (q := 34) hc (by first | assumption | exact ⟨by decide, rfl, by decide⟩) (by omega) (by first | decide | exact bI_01 _) dX9_body_33 rfl ?_
      first
      | exact D _ frm.set (tog_ba hB (by rw [c_25]; rfl))
  refine tt_al0 (q := 1) hc dX9_body_0 rfl ?_
  refine tt_il1 (q := 2) hc dX9_body_1 rfl ?_
  refine tt_cV1 (q := 5) (d' := 2) (ci := 9) hc (by first | decide | omega) kmX9_isBody ml_X9_147 (by first | assumption | exact ⟨by decide, _, rfl⟩) rfl (Nat.le_of_ble_eq_true rfl) dX9_body_2 rfl ?_
  refine c_X9_isBody a0.1 a1 ?_
  dsimp only [Option.toList, List.nil_append, List.cons_append]
  first | (with_reducible refine chkb ?_; refine tt_ifneB (t := 10) (q := 8) hc dX9_body_5 rfl rfl (fun c_5 => ?_) (fun c_5 => ?_)) | (with_reducible refine chk1 ?_; refine tt_ifneN (t := 10) (q := 8) hc (by omega) dX9_body_5 rfl rfl (fun c_5 => ?_) (fun c_5 => ?_)) | refine tt_ifne (t := 10) (q := 8) hc dX9_body_5 rfl rfl (fun c_5 => ?_) (fun c_5 => ?_)
  · obtain ⟨n, hv, hn, hp, hin⟩ := body_t c_5
    refine tt_al0 (q := 11) hc dX9_body_10 rfl ?_
    refine tt_cV0 (q := 14) (d' := 2) (ci := 9) hc (by first | decide | omega) kmX9_remembers ml_X9_130 (by first | assumption | exact ⟨by decide, _, rfl⟩) rfl (Nat.le_of_ble_eq_true rfl) dX9_body_11 rfl ?_
    refine c_X9_remembers a0 a2 a3 (fun ν hf hP => ?_)
    dsimp only [Option.toList, List.nil_append, List.cons_append]
    subst hv
    exact G n ν hn hp rfl hf hP hin
  · refine tt_iconst (v := -1) (q := 9) hc rfl dX9_body_8 rfl ?_
    refine tt_reti hX rfl dX9_body_9 ?_
    rw [if_neg (body_f a0.1 c_5)] at hQ
    exact hQ μ frm.rf wdf.rf hM
set_option maxHeartbeats 8000000 in
theorem c_X9_bodiesW {l : Launch} {k : Int32} {S : ST} {μ : Mem} {Q : Option Value → Mem → Prop} (hM : MR μ S) (hQ : ∀ μ', frm mL μ μ' → wdf μ μ' → MR μ' (sp_bodies k S).2 → Q (some (.int (sp_bodies k S).1)) μ') : CC l 1 mX9_bodies [.ref 24, .int k] μ Q := by
  refine CC.of (M := mX9_bodies) (by decide +kernel) rfl (fun v h => by simp at h; rcases h with rfl | rfl <;> rfl) (Nat.le_of_ble_eq_true rfl) (fun X hX => ?_)
  have hc := hX.cx
  obtain ⟨K, B, hs, ks, im, ls, tx, pp⟩ := S
  obtain ⟨⟨a0, a1, a2⟩, a3, a4, a5, a6, a7, a8⟩ := id hM
  have a77 := HA77
  dsimp only [sp_bodies] at hQ
  have L : ∀ (m : Nat), (m = 3 ∨ m = 4) → k = nI m → inB (nI m) (nI 3) (nI 4) = true → ∀ (n s : Nat) (ν : Mem), s + n = 256 → mg [77] [0, 6] μ ν → ν 24 0 = nI m → (∀ t, t < s → ν 77 t = 0) → TT X 24 [.ref 24, .int (nI m), .int (nI K), .int (nI s)] [] ν := by
    intro m hm hk hin n
    subst hk
    rw [if_pos hin, nI_clamp (by omega)] at hQ
    induction n with
    | zero =>
      intro s ν hs hf e0 hz
      refine tt_il3 (q := 25) hc dX9_bodies_24 rfl ?_
      refine tt_sipush (v := nI 256) (q := 28) hc (by decide) dX9_bodies_25 rfl ?_
      first | (with_reducible refine chk2 ?_; refine tt_icgeN (t := 44) (q := 31) hc (by omega) (by omega) dX9_bodies_28 rfl rfl (fun c_28 => ?_) (fun c_28 => ?_)) | refine tt_icge (t := 44) (q := 31) hc dX9_bodies_28 rfl rfl (fun c_28 => ?_) (fun c_28 => ?_)
      · refine tt_al0 (q := 45) hc dX9_bodies_44 rfl ?_
        refine tt_iconst (v := nI 0) (q := 46) hc rfl dX9_bodies_45 rfl ?_
        refine tt_putI (q := 49) hc fp_X9_120 (by first | assumption | exact ⟨by decide, _, rfl, _, rfl⟩) dX9_bodies_46 rfl ?_
        refine tt_il2 (q := 50) hc dX9_bodies_49 rfl ?_
        refine tt_reti hX rfl dX9_bodies_50 ?_
        have hf2 := hf.tr (mg.own (l := [77]) (p := [0, 6]) (k := 6) (v := nI 0) (by decide))
        exact hQ _ (hf2.ml (by decide)) (hf2.wd (by decide) (by decide) (by decide)) ⟨⟨⟨hm, fun s h => (by cases h)⟩, e0, fun t ht => hz t (by omega)⟩, ⟨Nat.zero_le _, rfl, fun i C h => (by cases h)⟩, a4.mg hf2 (by decide) (by decide), a5.mg hf2 (by decide) (by decide) (by decide) (by decide), a6.mg hf2 (by decide), a7.mg hf2 (by decide) (by decide), a8.mg hf2 (by decide) (by decide)⟩
      · omega
    | succ n ih =>
      intro s ν hs hf e0 hz
      refine tt_il3 (q := 25) hc dX9_bodies_24 rfl ?_
      refine tt_sipush (v := nI 256) (q := 28) hc (by decide) dX9_bodies_25 rfl ?_
      first | (with_reducible refine chk2 ?_; refine tt_icgeN (t := 44) (q := 31) hc (by omega) (by omega) dX9_bodies_28 rfl rfl (fun c_28 => ?_) (fun c_28 => ?_)) | refine tt_icge (t := 44) (q := 31) hc dX9_bodies_28 rfl rfl (fun c_28 => ?_) (fun c_28 => ?_)
      · omega
      · refine tt_al0 (q := 32) hc dX9_bodies_31 rfl ?_
        refine tt_getR (q := 35) hc fl_X9_15 (by first | assumption | exact ⟨by decide, _, rfl, rfl⟩) dX9_bodies_32 rfl ?_
        refine tt_il3 (q := 36) hc dX9_bodies_35 rfl ?_
        refine tt_iconst (v := nI 0) (q := 37) hc rfl dX9_bodies_36 rfl ?_
        refine tt_zast (q := 38) hc (by first | assumption | exact ⟨by decide, rfl, by decide⟩) (by omega) (by first | decide | exact bI_01 _) dX9_bodies_37 rfl ?_
        first | refine tt_inc3 (q := 41) hc dX9_bodies_38 rfl (by decide) (incN _) ?_ | refine tt_inc3 (q := 41) hc dX9_bodies_38 rfl (by decide) rfl ?_
        refine tt_goto (t := 24) hc dX9_bodies_41 rfl ?_
        refine ih (s + 1) _ (by omega) (hf.tr (mg.fr frm.set (by decide))) e0 (fun t ht => ?_)
        show upd (ν 77) s 0 t = 0
        by_cases e : t = s
        · subst e
          exact pk_us
        · rw [pk_un e]
          exact hz t (by omega)
  refine tt_il1 (q := 1) hc dX9_bodies_0 rfl ?_
  refine tt_iconst (v := nI 3) (q := 2) hc rfl dX9_bodies_1 rfl ?_
  refine tt_iconst (v := nI 4) (q := 3) hc rfl dX9_bodies_2 rfl ?_
  refine tt_cS3 (q := 6) (d' := 0) hc (by first | decide | omega) kmX9_in ml_X9_91 (Nat.le_of_ble_eq_true rfl) dX9_bodies_3 rfl ?_
  refine c_X9_in ?_
  dsimp only [Option.toList, List.nil_append, List.cons_append]
  first | (with_reducible refine chkb ?_; refine tt_ifneB (t := 12) (q := 9) hc dX9_bodies_6 rfl rfl (fun c_6 => ?_) (fun c_6 => ?_)) | (with_reducible refine chk1 ?_; refine tt_ifneN (t := 12) (q := 9) hc (by omega) dX9_bodies_6 rfl rfl (fun c_6 => ?_) (fun c_6 => ?_)) | refine tt_ifne (t := 12) (q := 9) hc dX9_bodies_6 rfl rfl (fun c_6 => ?_) (fun c_6 => ?_)
  · obtain ⟨m, hm1, hm2, hk⟩ := inB_t (by decide) (by decide) c_6
    refine tt_al0 (q := 13) hc dX9_bodies_12 rfl ?_
    refine tt_getI (q := 16) hc fl_X9_9 (by first | assumption | exact ⟨by decide, _, rfl, _, rfl⟩) dX9_bodies_13 rfl ?_
    rw [a1]
    refine tt_is2 (q := 17) hc dX9_bodies_16 rfl (by decide) ?_
    refine tt_al0 (q := 18) hc dX9_bodies_17 rfl ?_
    refine tt_il1 (q := 19) hc dX9_bodies_18 rfl ?_
    refine tt_putI (q := 22) hc fp_X9_9 (by first | assumption | exact ⟨by decide, _, rfl, _, rfl⟩) dX9_bodies_19 rfl ?_
    refine tt_iconst (v := nI 0) (q := 23) hc rfl dX9_bodies_22 rfl ?_
    refine tt_is3 (q := 24) hc dX9_bodies_23 rfl (by decide) ?_
    subst hk
    exact L m (by omega) rfl c_6 256 0 _ rfl (mg.own (by decide)) rfl (fun t ht => absurd ht (Nat.not_lt_zero _))
  · refine tt_bipush (v := -2) (q := 11) hc (by decide) dX9_bodies_9 rfl ?_
    refine tt_reti hX rfl dX9_bodies_11 ?_
    rw [if_neg (by rw [c_6]; exact Bool.false_ne_true)] at hQ
    exact hQ μ frm.rf wdf.rf hM
set_option maxHeartbeats 8000000 in
theorem c_X9_takeW {l : Launch} {v : Int32} {S : ST} {μ : Mem} {Q : Option Value → Mem → Prop} (hM : MR μ S) (hQ : ∀ μ', frm mL μ μ' → wdf μ μ' → MR μ' (sp_take v S).2 → Q (some (.int (sp_take v S).1)) μ') : CC l 2 mX9_take [.ref 24, .int v] μ Q := by
  refine CC.of (M := mX9_take) (by decide +kernel) rfl (fun v h => by simp at h; rcases h with rfl | rfl <;> rfl) (Nat.le_of_ble_eq_true rfl) (fun X hX => ?_)
  have hc := hX.cx
  obtain ⟨K, B, hs, ks, im, ls, tx, pp⟩ := S
  obtain ⟨⟨a0, a1, a2⟩, a3, a4, a5, a6, a7, a8⟩ := id hM
  have q34 := HQ34
  have a35 := HA35
  have a77 := HA77
  dsimp only [sp_take] at hQ
  rcases kpt_iff (v := v) a4.1 with ⟨i, q, hi4, hv, hk, hq, hin⟩ | ⟨hk, hin⟩
  · obtain ⟨g1, g2, g3⟩ := a4.2.2.1 i q hq
    have ak := HAk hi4
    rw [hk] at hQ
    dsimp only at hQ
    rw [hq] at hQ
    subst hv
    have F : ∀ (ν : Mem), mg [77] [0, 6] μ ν → BA ν 77 q.2 → ν 24 0 = nI q.1 → ν 24 6 = 0 → TT X 38 [.ref 24, .int (nI i)] [] ν := by
      intro ν hf hB e0 e6
      refine tt_al0 (q := 39) hc dX9_take_38 rfl ?_
      refine tt_getR (q := 42) hc fl_X9_15 (by first | assumption | exact ⟨by decide, _, rfl, rfl⟩) dX9_take_39 rfl ?_
      refine tt_cS1 (q := 45) (d' := 0) hc (by first | decide | omega) kmX9_bodiesOf ml_X9_140 (Nat.le_of_ble_eq_true rfl) dX9_take_42 rfl ?_
      refine c_X9_bodiesOf a77 g3 hB ?_
      dsimp only [Option.toList, List.nil_append, List.cons_append]
      refine tt_reti hX rfl dX9_take_45 ?_
      exact hQ ν (hf.ml (by decide)) (hf.wd (by decide) (by decide) (by decide)) ⟨⟨g3, e0, hB⟩, ⟨Nat.zero_le _, e6, fun i C h => (by cases h)⟩, a4.mg hf (by decide) (by decide), a5.mg hf (by decide) (by decide) (by decide) (by decide), a6.mg hf (by decide), a7.mg hf (by decide) (by decide), a8.mg hf (by decide) (by decide)⟩
    refine tt_al0 (q := 1) hc dX9_take_0 rfl ?_
    refine tt_il1 (q := 2) hc dX9_take_1 rfl ?_
    refine tt_cV1 (q := 5) (d' := 1) (ci := 9) hc (by first | decide | omega) kmX9_isKept ml_X9_217 (by first | assumption | exact ⟨by decide, _, rfl⟩) rfl (Nat.le_of_ble_eq_true rfl) dX9_take_2 rfl ?_
    refine c_X9_isKept a4 ?_
    rw [hin]
    dsimp only [Option.toList, List.nil_append, List.cons_append]
    first | (with_reducible refine chkb ?_; refine tt_ifneB (t := 10) (q := 8) hc dX9_take_5 rfl rfl (fun c_5 => ?_) (fun c_5 => ?_)) | (with_reducible refine chk1 ?_; refine tt_ifneN (t := 10) (q := 8) hc (by omega) dX9_take_5 rfl rfl (fun c_5 => ?_) (fun c_5 => ?_)) | refine tt_ifne (t := 10) (q := 8) hc dX9_take_5 rfl rfl (fun c_5 => ?_) (fun c_5 => ?_)
    · refine tt_al0 (q := 11) hc dX9_take_10 rfl ?_
      refine tt_getR (q := 14) hc fl_X9_51 (by first | assumption | exact ⟨by decide, _, rfl, rfl⟩) dX9_take_11 rfl ?_
      refine tt_il1 (q := 15) hc dX9_take_14 rfl ?_
      refine tt_aald (q := 16) hc (r := _) (by first | assumption | exact ⟨by decide, rfl, by decide⟩) (by decide) (by omega) dX9_take_15 rfl ?_
      refine tt_al0 (q := 17) hc dX9_take_16 rfl ?_
      refine tt_getR (q := 20) hc fl_X9_15 (by first | assumption | exact ⟨by decide, _, rfl, rfl⟩) dX9_take_17 rfl ?_
      refine tt_cS2 (q := 23) (d' := 1) hc (by first | decide | omega) kmX9_lays ml_X9_123 (Nat.le_of_ble_eq_true rfl) dX9_take_20 rfl ?_
      refine c_X9_lays ak a77 g1 (fun ν hf hB => ?_)
      have e35 : ν 35 i = nI q.1 := by rw [hf 35 (by decide)]; exact g2
      dsimp only [Option.toList, List.nil_append, List.cons_append]
      refine tt_al0 (q := 24) hc dX9_take_23 rfl ?_
      refine tt_al0 (q := 25) hc dX9_take_24 rfl ?_
      refine tt_getR (q := 28) hc fl_X9_54 (by first | assumption | exact ⟨by decide, _, rfl, rfl⟩) dX9_take_25 rfl ?_
      refine tt_il1 (q := 29) hc dX9_take_28 rfl ?_
      refine tt_iald (q := 30) hc (by first | assumption | exact ⟨by decide, rfl, by decide⟩) (by omega) dX9_take_29 rfl ?_
      rw [e35]
      refine tt_putI (q := 33) hc fp_X9_9 (by first | assumption | exact ⟨by decide, _, rfl, _, rfl⟩) dX9_take_30 rfl ?_
      refine tt_al0 (q := 34) hc dX9_take_33 rfl ?_
      refine tt_iconst (v := nI 0) (q := 35) hc rfl dX9_take_34 rfl ?_
      refine tt_putI (q := 38) hc fp_X9_120 (by first | assumption | exact ⟨by decide, _, rfl, _, rfl⟩) dX9_take_35 rfl ?_
      exact F _ ((mg.fr hf (by decide)).tr ((mg.own (by decide)).tr (mg.own (by decide)))) ((hB.mg (mg.own (l := []) (p := [0, 6]) (by decide)) (by simp) (by decide)).mg (mg.own (l := []) (p := [0, 6]) (by decide)) (by simp) (by decide)) rfl rfl
    · exact absurd c_5 (by decide)
  · rw [hk] at hQ
    refine tt_al0 (q := 1) hc dX9_take_0 rfl ?_
    refine tt_il1 (q := 2) hc dX9_take_1 rfl ?_
    refine tt_cV1 (q := 5) (d' := 1) (ci := 9) hc (by first | decide | omega) kmX9_isKept ml_X9_217 (by first | assumption | exact ⟨by decide, _, rfl⟩) rfl (Nat.le_of_ble_eq_true rfl) dX9_take_2 rfl ?_
    refine c_X9_isKept a4 ?_
    rw [hin]
    dsimp only [Option.toList, List.nil_append, List.cons_append]
    first | (with_reducible refine chkb ?_; refine tt_ifneB (t := 10) (q := 8) hc dX9_take_5 rfl rfl (fun c_5 => ?_) (fun c_5 => ?_)) | (with_reducible refine chk1 ?_; refine tt_ifneN (t := 10) (q := 8) hc (by omega) dX9_take_5 rfl rfl (fun c_5 => ?_) (fun c_5 => ?_)) | refine tt_ifne (t := 10) (q := 8) hc dX9_take_5 rfl rfl (fun c_5 => ?_) (fun c_5 => ?_)
    · exact absurd c_5 (by decide)
    · refine tt_iconst (v := -1) (q := 9) hc rfl dX9_take_8 rfl ?_
      refine tt_reti hX rfl dX9_take_9 ?_
      exact hQ μ frm.rf wdf.rf hM
set_option maxHeartbeats 8000000 in
theorem c_X9_keepW {l : Launch} {S : ST} {μ : Mem} {Q : Option Value → Mem → Prop} (hM : MR μ S) (hQ : ∀ μ', frm mL μ μ' → wdf μ μ' → MR μ' (sp_keep S).2 → Q (some (.int (sp_keep S).1)) μ') : CC l 2 mX9_keep [.ref 24] μ Q := by
  refine CC.of (M := mX9_keep) (by decide +kernel) rfl (fun v h => by simp at h; subst h; rfl) (Nat.le_of_ble_eq_true rfl) (fun X hX => ?_)
  have hc := hX.cx
  obtain ⟨K, B, hs, ks, im, ls, tx, pp⟩ := S
  obtain ⟨⟨a0, a1, a2⟩, a3, a4, a5, a6, a7, a8⟩ := id hM
  have q34 := HQ34
  have a35 := HA35
  have a77 := HA77
  obtain ⟨b1, b2, b3, b4⟩ := id a4
  dsimp only [sp_keep] at hQ
  have F : ks.length < 4 → ∀ (ν : Mem), mg [91 + ks.length, 35] [15] μ ν → BA ν (91 + ks.length) B → (∀ i, i ≠ ks.length → ν 35 i = μ 35 i) → ν 35 ks.length = nI K → ν 24 15 = nI (ks.length + 1) → TT X 50 [.ref 24] [] ν := by
    intro h4 ν hf hB h35 h35n e15
    rw [if_pos h4] at hQ
    refine tt_al0 (q := 51) hc dX9_keep_50 rfl ?_
    refine tt_getI (q := 54) hc fl_X9_214 (by first | assumption | exact ⟨by decide, _, rfl, _, rfl⟩) dX9_keep_51 rfl ?_
    rw [e15]
    refine tt_iconst (v := nI 1) (q := 55) hc rfl dX9_keep_54 rfl ?_
    first | (with_reducible refine chk2 ?_; refine tt_isubN (q := 56) hc (by omega) dX9_keep_55 rfl ?_) | refine tt_isub (q := 56) hc dX9_keep_55 rfl ?_
    refine tt_reti hX rfl dX9_keep_56 ?_
    refine hQ ν (fun i hi => hf.1 i (fun z => hi (mL_in (by simp at z; omega))) (fun e => hi (mL_in (by omega)))) (hf.wd (by simp; omega) (by simp; omega) (by decide)) ⟨⟨a0, (hf.2 0 (by decide)).trans a1, a2.mg hf (by simp; omega) (by decide)⟩, a3.mg hf (fun i hi => by simp at hi; omega) (by decide), ⟨?_, ?_, fun i q hq => ?_, fun j hj => ?_⟩, a5.mg hf (fun i hi => by simp at hi; omega) (by decide) (by decide) (by decide), a6.mg hf (fun i hi => by simp at hi; omega), a7.mg hf (by simp; omega) (by decide), a8.mg hf (by simp; omega) (by decide)⟩
    · rw [List.length_append, List.length_singleton]
      omega
    · rw [List.length_append, List.length_singleton]
      exact e15
    · by_cases e : i < ks.length
      · rw [List.getElem?_append_left e] at hq
        obtain ⟨g1, g2, g3⟩ := b3 i q hq
        exact ⟨g1.mg hf (by simp; omega) (by omega), by rw [h35 i (by omega)]; exact g2, g3⟩
      · have hl := (List.getElem?_eq_some_iff.mp hq).1
        rw [List.length_append, List.length_singleton] at hl
        have e2 : i = ks.length := by omega
        subst e2
        rw [List.getElem?_append_right (Nat.le_refl _), Nat.sub_self] at hq
        simp only [List.getElem?_cons_zero, Option.some.injEq] at hq
        subst hq
        exact ⟨hB, h35n, a0⟩
    · by_cases e : j = ks.length
      · exact ⟨B, by rw [e]; exact hB⟩
      · exact (b4 j hj).imp (fun C hC => hC.mg hf (by simp; omega) (by omega))
  refine tt_al0 (q := 1) hc dX9_keep_0 rfl ?_
  refine tt_getI (q := 4) hc fl_X9_214 (by first | assumption | exact ⟨by decide, _, rfl, _, rfl⟩) dX9_keep_1 rfl ?_
  rw [b2]
  refine tt_iconst (v := nI 4) (q := 5) hc rfl dX9_keep_4 rfl ?_
  first | (with_reducible refine chk2 ?_; refine tt_icneN (t := 11) (q := 8) hc (by omega) (by omega) dX9_keep_5 rfl rfl (fun c_5 => ?_) (fun c_5 => ?_)) | refine tt_icne (t := 11) (q := 8) hc dX9_keep_5 rfl rfl (fun c_5 => ?_) (fun c_5 => ?_)
  · have h4 : ks.length < 4 := by omega
    have ak := HAk h4
    refine tt_al0 (q := 12) hc dX9_keep_11 rfl ?_
    refine tt_getR (q := 15) hc fl_X9_15 (by first | assumption | exact ⟨by decide, _, rfl, rfl⟩) dX9_keep_12 rfl ?_
    refine tt_al0 (q := 16) hc dX9_keep_15 rfl ?_
    refine tt_getR (q := 19) hc fl_X9_51 (by first | assumption | exact ⟨by decide, _, rfl, rfl⟩) dX9_keep_16 rfl ?_
    refine tt_al0 (q := 20) hc dX9_keep_19 rfl ?_
    refine tt_getI (q := 23) hc fl_X9_214 (by first | assumption | exact ⟨by decide, _, rfl, _, rfl⟩) dX9_keep_20 rfl ?_
    rw [b2]
    refine tt_aald (q := 24) hc (r := _) (by first | assumption | exact ⟨by decide, rfl, by decide⟩) (by decide) (by omega) dX9_keep_23 rfl ?_
    refine tt_cS2 (q := 27) (d' := 1) hc (by first | decide | omega) kmX9_lays ml_X9_123 (Nat.le_of_ble_eq_true rfl) dX9_keep_24 rfl ?_
    refine c_X9_lays a77 ak a2 (fun ν hf hB => ?_)
    have e15 : ν 24 15 = nI ks.length := by rw [hf 24 (by simp; omega)]; exact b2
    have e0 : ν 24 0 = nI K := by rw [hf 24 (by simp; omega)]; exact a1
    have e35 : ν 35 = μ 35 := hf 35 (by simp; omega)
    dsimp only [Option.toList, List.nil_append, List.cons_append]
    refine tt_al0 (q := 28) hc dX9_keep_27 rfl ?_
    refine tt_getR (q := 31) hc fl_X9_54 (by first | assumption | exact ⟨by decide, _, rfl, rfl⟩) dX9_keep_28 rfl ?_
    refine tt_al0 (q := 32) hc dX9_keep_31 rfl ?_
    refine tt_getI (q := 35) hc fl_X9_214 (by first | assumption | exact ⟨by decide, _, rfl, _, rfl⟩) dX9_keep_32 rfl ?_
    rw [e15]
    refine tt_al0 (q := 36) hc dX9_keep_35 rfl ?_
    refine tt_getI (q := 39) hc fl_X9_9 (by first | assumption | exact ⟨by decide, _, rfl, _, rfl⟩) dX9_keep_36 rfl ?_
    rw [e0]
    refine tt_iast (q := 40) hc (by first | assumption | exact ⟨by decide, rfl, by decide⟩) (by omega) dX9_keep_39 rfl ?_
    refine tt_al0 (q := 41) hc dX9_keep_40 rfl ?_
    refine tt_dup (q := 42) hc rfl dX9_keep_41 rfl ?_
    refine tt_getI (q := 45) hc fl_X9_214 (by first | assumption | exact ⟨by decide, _, rfl, _, rfl⟩) dX9_keep_42 rfl ?_
    rw [mset_ne (by decide), e15]
    refine tt_iconst (v := nI 1) (q := 46) hc rfl dX9_keep_45 rfl ?_
    first | (with_reducible refine chk2 ?_; refine tt_iaddN (q := 47) hc dX9_keep_46 rfl ?_) | refine tt_iadd (q := 47) hc dX9_keep_46 rfl ?_
    refine tt_putI (q := 50) hc fp_X9_214 (by first | assumption | exact ⟨by decide, _, rfl, _, rfl⟩) dX9_keep_47 rfl ?_
    refine F h4 _ ((mg.fr (hf.mono (by simp)) (by simp; omega)).tr ((mg.fr (frm.set.mono (by simp)) (by simp; omega)).tr (mg.own (by decide)))) ((hB.mg (mg.fr (p := [15]) (frm.set (i := 35)) (by decide)) (by simp; omega) (by omega)).mg (mg.own (l := []) (p := [15]) (by decide)) (by simp) (by omega)) (fun i hi => ?_) ?_ rfl
    · show upd (ν 35) ks.length (nI K) i = μ 35 i
      rw [pk_un hi, e35]
    · show upd (ν 35) ks.length (nI K) ks.length = nI K
      exact pk_us
  · refine tt_bipush (v := -4) (q := 10) hc (by decide) dX9_keep_8 rfl ?_
    refine tt_reti hX rfl dX9_keep_10 ?_
    rw [if_neg (by omega)] at hQ
    exact hQ μ frm.rf wdf.rf hM

set_option maxHeartbeats 1000000 in
theorem c_X9_flipW {l : Launch} {i : Int32} {S : ST} {μ : Mem} {Q : Option Value → Mem → Prop} (hM : MR μ S) (hQ : ∀ μ', frm mL μ μ' → wdf μ μ' → MR μ' (sp_flip i S).2 → Q (some (.int (sp_flip i S).1)) μ') : CC l 4 mX9_flip [.ref 24, .int i] μ Q := by
  refine CC.of (M := mX9_flip) (by decide +kernel) rfl (fun v h => by simp at h; rcases h with rfl | rfl <;> rfl) (Nat.le_of_ble_eq_true rfl) (fun X hX => ?_)
  have hc := hX.cx
  obtain ⟨K, B, hs, ks, im, ls, tx, pp⟩ := S
  obtain ⟨⟨a0, a1, a2⟩, a3, -⟩ := id hM
  have a77 := HA77
  have q30 := HQ30
  have q31 := HQ31
  have a32 := HA32
  have aA := HAf (j := 0) (by decide)
  have aB := HAg (j := 0) (by decide)
  have hl2 := fl_len K B
  dsimp only [sp_flip] at hQ
  rcases lx_iff (l := fl K B) (v := i) (by omega) with ⟨k, a, hv, hk, hg, hlx, hin⟩ | ⟨hlx, hin⟩
  · rw [hlx] at hQ
    dsimp only at hQ
    subst hv
    have hm := fl_mem (List.mem_of_getElem? hg)
    have hK := flp_ok a0 hm.2.1
    refine tt_al0 (q := 1) hc dX9_flip_0 rfl ?_
    refine tt_al0 (q := 2) hc dX9_flip_1 rfl ?_
    refine tt_getR (q := 5) hc fl_X9_15 (by first | assumption | exact ⟨by decide, _, rfl, rfl⟩) dX9_flip_2 rfl ?_
    refine tt_iconst (v := nI 0) (q := 6) hc rfl dX9_flip_5 rfl ?_
    refine tt_cV2 (q := 9) (d' := 3) (ci := 9) hc (by first | decide | omega) kmX9_layFlips ml_X9_203 (by first | assumption | exact ⟨by decide, _, rfl⟩) rfl (Nat.le_of_ble_eq_true rfl) dX9_flip_6 rfl ?_
    refine c_X9_layFlipsG HA77 (by decide) (by decide) a0 a2 a1 (fun ν hf h32 hF hL => ?_)
    have hM1 := hM.wk hf.mf (by decide)
    have b2 := hM1.1.2.2
    dsimp only [Option.toList, List.nil_append, List.cons_append]
    refine tt_il1 (q := 10) hc dX9_flip_9 rfl ?_
    refine tt_iconst (v := nI 0) (q := 11) hc rfl dX9_flip_10 rfl ?_
    refine tt_al0 (q := 12) hc dX9_flip_11 rfl ?_
    refine tt_getR (q := 15) hc fl_X9_45 (by first | assumption | exact ⟨by decide, _, rfl, rfl⟩) dX9_flip_12 rfl ?_
    refine tt_iconst (v := nI 0) (q := 16) hc rfl dX9_flip_15 rfl ?_
    refine tt_iald (q := 17) hc (by first | assumption | exact ⟨by decide, rfl, by decide⟩) (by omega) dX9_flip_16 rfl ?_
    rw [hL.1]
    refine tt_iconst (v := nI 1) (q := 18) hc rfl dX9_flip_17 rfl ?_
    refine tt_isub (q := 19) hc dX9_flip_18 rfl ?_
    refine tt_cS3 (q := 22) (d' := 0) hc (by first | decide | omega) kmX9_in ml_X9_91 (Nat.le_of_ble_eq_true rfl) dX9_flip_19 rfl ?_
    refine c_X9_in ?_
    rw [hin]
    dsimp only [Option.toList, List.nil_append, List.cons_append]
    first | (with_reducible refine chkb ?_; refine tt_ifneB (t := 27) (q := 25) hc dX9_flip_22 rfl rfl (fun c_22 => ?_) (fun c_22 => ?_)) | (with_reducible refine chk1 ?_; refine tt_ifneN (t := 27) (q := 25) hc (by omega) dX9_flip_22 rfl rfl (fun c_22 => ?_) (fun c_22 => ?_)) | refine tt_ifne (t := 27) (q := 25) hc dX9_flip_22 rfl rfl (fun c_22 => ?_) (fun c_22 => ?_)
    · refine tt_al0 (q := 28) hc dX9_flip_27 rfl ?_
      refine tt_cV0 (q := 31) (d' := 2) (ci := 9) hc (by first | decide | omega) kmX9_remembers ml_X9_130 (by first | assumption | exact ⟨by decide, _, rfl⟩) rfl (Nat.le_of_ble_eq_true rfl) dX9_flip_28 rfl ?_
      refine c_X9_remembers a0 b2 hM1.2.1 (fun ν1 hf1 hP => ?_)
      have hL1 := mf.fl hL hf1 (by decide) (by decide) (by decide) (by decide)
      have hB1 := b2.mg hf1 (by decide) (by decide)
      dsimp only [Option.toList, List.nil_append, List.cons_append]
      refine tt_al0 (q := 32) hc dX9_flip_31 rfl ?_
      refine tt_al0 (q := 33) hc dX9_flip_32 rfl ?_
      refine tt_getR (q := 36) hc fl_X9_15 (by first | assumption | exact ⟨by decide, _, rfl, rfl⟩) dX9_flip_33 rfl ?_
      refine tt_al0 (q := 37) hc dX9_flip_36 rfl ?_
      refine tt_getR (q := 40) hc fl_X9_39 (by first | assumption | exact ⟨by decide, _, rfl, rfl⟩) dX9_flip_37 rfl ?_
      refine tt_iconst (v := nI 0) (q := 41) hc rfl dX9_flip_40 rfl ?_
      refine tt_aald (q := 42) hc (r := _) (by first | assumption | exact ⟨by decide, rfl, by decide⟩) (by decide) (by omega) dX9_flip_41 rfl ?_
      refine tt_il1 (q := 43) hc dX9_flip_42 rfl ?_
      refine tt_iald (q := 44) hc (by first | assumption | exact ⟨by decide, rfl, by decide⟩) (by omega) dX9_flip_43 rfl ?_
      rw [(hL1.2 _ _ hg).1]
      refine tt_al0 (q := 45) hc dX9_flip_44 rfl ?_
      refine tt_getR (q := 48) hc fl_X9_42 (by first | assumption | exact ⟨by decide, _, rfl, rfl⟩) dX9_flip_45 rfl ?_
      refine tt_iconst (v := nI 0) (q := 49) hc rfl dX9_flip_48 rfl ?_
      refine tt_aald (q := 50) hc (r := _) (by first | assumption | exact ⟨by decide, rfl, by decide⟩) (by decide) (by omega) dX9_flip_49 rfl ?_
      refine tt_il1 (q := 51) hc dX9_flip_50 rfl ?_
      refine tt_iald (q := 52) hc (by first | assumption | exact ⟨by decide, rfl, by decide⟩) (by omega) dX9_flip_51 rfl ?_
      rw [(hL1.2 _ _ hg).2]
      refine tt_cV3 (q := 55) (d' := 0) (ci := 9) hc (by first | decide | omega) kmX9_does ml_X9_210 (by first | assumption | exact ⟨by decide, _, rfl⟩) rfl (Nat.le_of_ble_eq_true rfl) dX9_flip_52 rfl ?_
      refine c_X9_does HA77 a0 hB1 hm.2.1 rfl hm.2.2 (fun ν2 hf2 hB2 => ?_)
      have hm2 : mg (77 :: stL) [6] ν ν2 := (hf1.mono (fun i hi => List.mem_cons_of_mem _ hi) (fun i hi => hi)).tr ((mg.fr hf2 (by decide)).mono (fun i hi => by rw [List.mem_singleton.mp hi]; exact List.mem_cons_self) (fun i hi => hi))
      dsimp only [Option.toList, List.nil_append, List.cons_append]
      refine tt_al0 (q := 56) hc dX9_flip_55 rfl ?_
      refine tt_getR (q := 59) hc fl_X9_15 (by first | assumption | exact ⟨by decide, _, rfl, rfl⟩) dX9_flip_56 rfl ?_
      refine tt_cS1 (q := 62) (d' := 0) hc (by first | decide | omega) kmX9_bodiesOf ml_X9_140 (Nat.le_of_ble_eq_true rfl) dX9_flip_59 rfl ?_
      refine c_X9_bodiesOf a77 hK hB2 ?_
      dsimp only [Option.toList, List.nil_append, List.cons_append]
      refine tt_reti hX rfl dX9_flip_62 ?_
      exact hQ ν2 ((hf.ml (by decide)).tr (hm2.ml (by decide))) ((hf.wd (by decide) (by decide) (by decide)).tr (hm2.wd (by decide) (by decide) (by decide))) (hM1.step hm2 (hP.mg (mg.fr (p := [4]) hf2 (by decide)) (by decide) (by decide)) hK hB2)
    · exact absurd c_22 (by decide)
  · rw [hlx] at hQ
    refine tt_al0 (q := 1) hc dX9_flip_0 rfl ?_
    refine tt_al0 (q := 2) hc dX9_flip_1 rfl ?_
    refine tt_getR (q := 5) hc fl_X9_15 (by first | assumption | exact ⟨by decide, _, rfl, rfl⟩) dX9_flip_2 rfl ?_
    refine tt_iconst (v := nI 0) (q := 6) hc rfl dX9_flip_5 rfl ?_
    refine tt_cV2 (q := 9) (d' := 3) (ci := 9) hc (by first | decide | omega) kmX9_layFlips ml_X9_203 (by first | assumption | exact ⟨by decide, _, rfl⟩) rfl (Nat.le_of_ble_eq_true rfl) dX9_flip_6 rfl ?_
    refine c_X9_layFlipsG HA77 (by decide) (by decide) a0 a2 a1 (fun ν hf h32 hF hL => ?_)
    dsimp only [Option.toList, List.nil_append, List.cons_append]
    refine tt_il1 (q := 10) hc dX9_flip_9 rfl ?_
    refine tt_iconst (v := nI 0) (q := 11) hc rfl dX9_flip_10 rfl ?_
    refine tt_al0 (q := 12) hc dX9_flip_11 rfl ?_
    refine tt_getR (q := 15) hc fl_X9_45 (by first | assumption | exact ⟨by decide, _, rfl, rfl⟩) dX9_flip_12 rfl ?_
    refine tt_iconst (v := nI 0) (q := 16) hc rfl dX9_flip_15 rfl ?_
    refine tt_iald (q := 17) hc (by first | assumption | exact ⟨by decide, rfl, by decide⟩) (by omega) dX9_flip_16 rfl ?_
    rw [hL.1]
    refine tt_iconst (v := nI 1) (q := 18) hc rfl dX9_flip_17 rfl ?_
    refine tt_isub (q := 19) hc dX9_flip_18 rfl ?_
    refine tt_cS3 (q := 22) (d' := 0) hc (by first | decide | omega) kmX9_in ml_X9_91 (Nat.le_of_ble_eq_true rfl) dX9_flip_19 rfl ?_
    refine c_X9_in ?_
    rw [hin]
    dsimp only [Option.toList, List.nil_append, List.cons_append]
    first | (with_reducible refine chkb ?_; refine tt_ifneB (t := 27) (q := 25) hc dX9_flip_22 rfl rfl (fun c_22 => ?_) (fun c_22 => ?_)) | (with_reducible refine chk1 ?_; refine tt_ifneN (t := 27) (q := 25) hc (by omega) dX9_flip_22 rfl rfl (fun c_22 => ?_) (fun c_22 => ?_)) | refine tt_ifne (t := 27) (q := 25) hc dX9_flip_22 rfl rfl (fun c_22 => ?_) (fun c_22 => ?_)
    · exact absurd c_22 (by decide)
    · refine tt_iconst (v := -1) (q := 26) hc rfl dX9_flip_25 rfl ?_
      refine tt_reti hX rfl dX9_flip_26 ?_
      exact hQ ν (hf.ml (by decide)) (hf.wd (by decide) (by decide) (by decide)) (hM.wk hf.mf (by decide))
set_option maxHeartbeats 2000000 in
theorem c_X9_makeW {l : Launch} {k : Int32} {S : ST} {μ : Mem} {Q : Option Value → Mem → Prop} (hM : MR μ S) (hQ : ∀ μ', frm mL μ μ' → wdf μ μ' → MR μ' (sp_make k S).2 → Q (some (.int (sp_make k S).1)) μ') : CC l 4 mX9_make [.ref 24, .int k] μ Q := by
  refine CC.of (M := mX9_make) (by decide +kernel) rfl (fun v h => by simp at h; rcases h with rfl | rfl <;> rfl) (Nat.le_of_ble_eq_true rfl) (fun X hX => ?_)
  have hc := hX.cx
  obtain ⟨K, B, hs, ks, im, ls, tx, pp⟩ := S
  obtain ⟨⟨a0, a1, a2⟩, a3, -⟩ := id hM
  have a77 := HA77
  have hK := a0.1
  dsimp only [sp_make] at hQ
  have M : ∀ (n : Nat), n ≤ 5 → k = nI n → inB (nI n) (nI 0) (nI 5) = true → TT X 11 [.ref 24, .int (nI n), .long 0] [] μ := by
    intro n hn hkn hin
    subst hkn
    rw [if_pos hin, nI_clamp (by omega)] at hQ
    have hmo := made_ok hK hn
    have F : ∀ (ν0 : Mem), mg stL [6] μ ν0 → MP ν0 K (nt B hs) → ∀ (ν : Mem) (w2 : Value), frm [77] ν0 ν → (∀ t, t < 256 → ν 77 t = bI (mkB K n t)) → TT X 144 [.ref 24, .int (nI n), w2] [] ν := by
      intro ν0 hf0 hP ν w2 hf hv
      have hB : BA ν 77 (made K n) := fun t ht => by rw [hv t ht, mk_made hK hn ht]
      have hm : mg (77 :: stL) [6] μ ν := (hf0.mono (fun i hi => List.mem_cons_of_mem _ hi) (fun i hi => hi)).tr ((mg.fr hf (by decide)).mono (fun i hi => by rw [List.mem_singleton.mp hi]; exact List.mem_cons_self) (fun i hi => hi))
      refine tt_al0 (q := 145) hc dX9_make_144 rfl ?_
      refine tt_getR (q := 148) hc fl_X9_15 (by first | assumption | exact ⟨by decide, _, rfl, rfl⟩) dX9_make_145 rfl ?_
      refine tt_cS1 (q := 151) (d' := 0) hc (by first | decide | omega) kmX9_bodiesOf ml_X9_140 (Nat.le_of_ble_eq_true rfl) dX9_make_148 rfl ?_
      refine c_X9_bodiesOf a77 hmo hB ?_
      dsimp only [Option.toList, List.nil_append, List.cons_append]
      refine tt_reti hX rfl dX9_make_151 ?_
      exact hQ ν (hm.ml (by decide)) (hm.wd (by decide) (by decide) (by decide)) (hM.step hm (hP.mg (mg.fr (p := [4]) hf (by decide)) (by decide) (by decide)) hmo hB)
    refine tt_al0 (q := 12) hc dX9_make_11 rfl ?_
    refine tt_cV0 (q := 15) (d' := 2) (ci := 9) hc (by first | decide | omega) kmX9_remembers ml_X9_130 (by first | assumption | exact ⟨by decide, _, rfl⟩) rfl (Nat.le_of_ble_eq_true rfl) dX9_make_12 rfl ?_
    refine c_X9_remembers a0 a2 a3 (fun ν0 hf0 hP => ?_)
    have z0 : ν0 24 0 = nI K := (hf0.2 0 (by decide)).trans a1
    dsimp only [Option.toList, List.nil_append, List.cons_append]
    exact make_loop hX hK hn ν0 z0 (F ν0 hf0 hP) _
  refine tt_il1 (q := 1) hc dX9_make_0 rfl ?_
  refine tt_iconst (v := nI 0) (q := 2) hc rfl dX9_make_1 rfl ?_
  refine tt_iconst (v := nI 5) (q := 3) hc rfl dX9_make_2 rfl ?_
  refine tt_cS3 (q := 6) (d' := 0) hc (by first | decide | omega) kmX9_in ml_X9_91 (Nat.le_of_ble_eq_true rfl) dX9_make_3 rfl ?_
  refine c_X9_in ?_
  dsimp only [Option.toList, List.nil_append, List.cons_append]
  first | (with_reducible refine chkb ?_; refine tt_ifneB (t := 11) (q := 9) hc dX9_make_6 rfl rfl (fun c_6 => ?_) (fun c_6 => ?_)) | (with_reducible refine chk1 ?_; refine tt_ifneN (t := 11) (q := 9) hc (by omega) dX9_make_6 rfl rfl (fun c_6 => ?_) (fun c_6 => ?_)) | refine tt_ifne (t := 11) (q := 9) hc dX9_make_6 rfl rfl (fun c_6 => ?_) (fun c_6 => ?_)
  · obtain ⟨n, -, hn, hkn⟩ := inB_t (by decide) (by decide) c_6
    have hin := c_6
    rw [hkn] at hin ⊢
    exact M n hn hkn hin
  · refine tt_iconst (v := -1) (q := 10) hc rfl dX9_make_9 rfl ?_
    refine tt_reti hX rfl dX9_make_10 ?_
    rw [if_neg (by rw [c_6]; exact Bool.false_ne_true)] at hQ
    exact hQ μ frm.rf wdf.rf hM
