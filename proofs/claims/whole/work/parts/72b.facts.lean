/-! WHAT HOLDS AT THE LAW'S ENTRY, taken together (written by wip/whole/gen/facts.py) -/
set_option maxRecDepth 100000 in
theorem tabs_start {s : State} {b : Nat} (hts : ∀ w ∈ lw_tbl, w.before #[Value.ref b] s = true) (hgv : (Jvm.Cond.and given_1 narrow_1).before #[Value.ref b] s = true) : ∃ (dC : Nat → ClassId) (dI : Nat → Nat → Nat) (T : Nat → ClassId) (lit : Nat → Nat), lit 200 = b ∧ ∀ ad : Nat → Nat, (∀ i, 112 ≤ i → ad i = lit i) → KG (dC, dI, ad, T) s ∧ KK (dC, dI, ad, T) s ∧ SS (dC, dI, ad, T) (fun q => s.heap.size ≤ q) s s.heap := by
  have h9 : ∀ w ∈ wsL_law, w.before #[Value.ref b] s = true := fun w hw => hts w (wsL_in w hw)
  have hs : ∀ w ∈ gvL, w.before #[Value.ref b] s = true := flat_of_before _ hgv
  have hA : ∀ a : Nat, a < s.heap.size → ¬ (fun q : Nat => s.heap.size ≤ q) a := fun a h => Nat.not_le.mpr h
  obtain ⟨ec0, ei0, ek0⟩ := u_known (C := RX0) (T := TX0) (N := 2) (n := 2) h9 inlX0 (h9 _ (lk_r1 _ (List.mem_of_getElem? (i := 13) rfl)))
  obtain ⟨ec1, ei1, ek1⟩ := u_known (C := RX1) (T := TX1) (N := 3) (n := 3) h9 inlX1 (h9 _ (lk_r2 _ (List.mem_of_getElem? (i := 13) rfl)))
  obtain ⟨ec2, ei2, ek2⟩ := u_known (C := RX2) (T := TX2) (N := 3) (n := 3) h9 inlX2 (h9 _ (lk_r1 _ (List.mem_of_getElem? (i := 20) rfl)))
  obtain ⟨ec3, ei3, ek3⟩ := u_known (C := RX3) (T := TX3) (N := 2) (n := 2) h9 inlX3 (h9 _ (lk_r2 _ (List.mem_of_getElem? (i := 17) rfl)))
  obtain ⟨ec4, ei4, ek4⟩ := u_known (C := RX4) (T := TX4) (N := 4) (n := 4) h9 inlX4 (h9 _ (lk_r2 _ (List.mem_of_getElem? (i := 9) rfl)))
  obtain ⟨ec5, ei5, ek5⟩ := u_known (C := RX5) (T := TX5) (N := 2) (n := 2) h9 inlX5 (h9 _ (lk_r2 _ (List.mem_of_getElem? (i := 0) rfl)))
  obtain ⟨ec6, ei6, ek6⟩ := u_known (C := RX6) (T := TX6) (N := 6) (n := 6) h9 inlX6 (h9 _ (lk_r2 _ (List.mem_of_getElem? (i := 21) rfl)))
  obtain ⟨ec7, ei7, ek7⟩ := u_known (C := RX7) (T := TX7) (N := 6) (n := 6) h9 inlX7 (h9 _ (lk_r2 _ (List.mem_of_getElem? (i := 5) rfl)))
  obtain ⟨ec8, ei8, ek8⟩ := u_known (C := RX8) (T := TX8) (N := 15) (n := 15) h9 inlX8 (h9 _ (lk_r1 _ (List.mem_of_getElem? (i := 1) rfl)))
  obtain ⟨ec9, ei9, ek9⟩ := u_known (C := RX9) (T := TX9) (N := 34) (n := 34) h9 inlX9 (h9 _ (lk_r1 _ (List.mem_of_getElem? (i := 4) rfl)))
  obtain ⟨ti, ki, pi, i1, i2, i3⟩ := Cond.arrayClass_spec (hts (.arrayClass .int) (by decide +kernel))
  obtain ⟨tz, kz, pz, z1, z2, z3⟩ := Cond.arrayClass_spec (hts (.arrayClass .boolean) (by decide +kernel))
  obtain ⟨tb, kb, pb, b1, b2, b3⟩ := Cond.arrayClass_spec (hts (.arrayClass .byte) (by decide +kernel))
  have oh := hts (.arrayOver (.object "FaceFlips$Heap")) (by decide +kernel)
  have ozz := hts (.arrayOver (.array .boolean)) (by decide +kernel)
  have oii := hts (.arrayOver (.array .int)) (by decide +kernel)
  obtain ⟨ph, th, kh, f1, -, f2, f3, f4⟩ := Cond.arrayOver_spec oh
  obtain ⟨pzz, tzz, kzz, y1, -, y2, y3, y4⟩ := arrayOverA_spec ozz
  obtain ⟨pii, tii, kii, x1, -, x2, x3, x4⟩ := arrayOverA_spec oii
  obtain ⟨adK, adV, hvS, hev⟩ := vk_Sof (N := 12) (tm := txS) (len := litL) (byt := litB) (by decide) (fun i hi => hs _ (g_ex i hi)) (fun i hi => hs _ (g_co i hi)) (fun i hi => hs _ (g_ar i hi)) (fun i hi => hs _ (g_le i hi)) (fun i hi j hj => hs _ (g_el i hi j hj)) (fun i j hi hj hij => (g_ne i hi j hj hij).imp (fun h => hs _ h) (fun h => hs _ h)) hA
  obtain ⟨tf, ef, hf⟩ := va_Tof (tm := .static "FaceFlips" "FEWEST_DIGITS" "[I") (N := 12) (ty := .int) (f := fun j => .int (fewD j)) (by decide) (hs _ (by decide +kernel)) (va_eqt (z := 12) (hs _ (by decide +kernel))) (fun j hj => va_eqt (hs _ (g_fe j hj))) hA
  obtain ⟨tm, em, hm⟩ := va_Tof (tm := .static "FaceFlips" "MOST_DIGITS" "[I") (N := 12) (ty := .int) (f := fun j => .int (mostD j)) (by decide) (hs _ (by decide +kernel)) (va_eqt (z := 12) (hs _ (by decide +kernel))) (fun j hj => va_eqt (hs _ (g_mo j hj))) hA
  have zf := va_Zof (hts (.laysStatic "FaceFlips" "FEWEST_DIGITS" "[I") (by decide +kernel)) (hts (.initialized "FaceFlips") (by decide +kernel)) ef hA
  have zm := va_Zof (hts (.laysStatic "FaceFlips" "MOST_DIGITS" "[I") (by decide +kernel)) (hts (.initialized "FaceFlips") (by decide +kernel)) em hA
  have zc := va_Zof (hts (.laysStatic "java/lang/String" "COMPACT_STRINGS" "Z") (by decide +kernel)) (hts (.initialized "java/lang/String") (by decide +kernel)) (va_eqt (z := 1) (hs _ (by decide +kernel))) hA
  obtain ⟨ts, zs⟩ : ∃ ts : Nat, va_Z "jdk/internal/util/Preconditions" "SIOOBE_FORMATTER" "Ljava/util/function/BiFunction;" .null (fun q : Nat => s.heap.size ≤ q) s s.heap ∨ va_Z "jdk/internal/util/Preconditions" "SIOOBE_FORMATTER" "Ljava/util/function/BiFunction;" (.ref ts) (fun q : Nat => s.heap.size ≤ q) s s.heap := by
    rcases va_Zqof (hts (.laysStatic "jdk/internal/util/Preconditions" "SIOOBE_FORMATTER" "Ljava/util/function/BiFunction;") (by decide +kernel)) (hts (.initialized "jdk/internal/util/Preconditions") (by decide +kernel)) (hs (.isRef (.static "jdk/internal/util/Preconditions" "SIOOBE_FORMATTER" "Ljava/util/function/BiFunction;")) (by decide +kernel)) hA with h | ⟨t, h⟩
    · exact ⟨0, Or.inl h⟩
    · exact ⟨t, Or.inr h⟩
  refine ⟨fun k => match k with | 0 => ec0 | 1 => ec1 | 2 => ec2 | 3 => ec3 | 4 => ec4 | 5 => ec5 | 6 => ec6 | 7 => ec7 | 8 => ec8 | _ => ec9, fun k => match k with | 0 => ei0 | 1 => ei1 | 2 => ei2 | 3 => ei3 | 4 => ei4 | 5 => ei5 | 6 => ei6 | 7 => ei7 | 8 => ei8 | _ => ei9, fun k => match k with | 0 => ti | 1 => tz | 2 => tb | 3 => th | 4 => tzz | _ => tii, litf b tf tm ts adK adV, rfl, fun ad had => ?_⟩
  have hK : va_K (gD ((fun k => match k with | 0 => ec0 | 1 => ec1 | 2 => ec2 | 3 => ec3 | 4 => ec4 | 5 => ec5 | 6 => ec6 | 7 => ec7 | 8 => ec8 | _ => ec9, fun k => match k with | 0 => ei0 | 1 => ei1 | 2 => ei2 | 3 => ei3 | 4 => ei4 | 5 => ei5 | 6 => ei6 | 7 => ei7 | 8 => ei8 | _ => ei9, ad, fun k => match k with | 0 => ti | 1 => tz | 2 => tb | 3 => th | 4 => tzz | _ => tii) : Geo)) vwCl (tysG ((fun k => match k with | 0 => ec0 | 1 => ec1 | 2 => ec2 | 3 => ec3 | 4 => ec4 | 5 => ec5 | 6 => ec6 | 7 => ec7 | 8 => ec8 | _ => ec9, fun k => match k with | 0 => ei0 | 1 => ei1 | 2 => ei2 | 3 => ei3 | 4 => ei4 | 5 => ei5 | 6 => ei6 | 7 => ei7 | 8 => ei8 | _ => ei9, ad, fun k => match k with | 0 => ti | 1 => tz | 2 => tb | 3 => th | 4 => tzz | _ => tii) : Geo)) s := ⟨fun k q hq => by
    match k, hq with
    | 0, hq => cases hq; exact ek0
    | 1, hq => cases hq; exact ek1
    | 2, hq => cases hq; exact ek2
    | 3, hq => cases hq; exact ek3
    | 4, hq => cases hq; exact ek4
    | 5, hq => cases hq; exact ek5
    | 6, hq => cases hq; exact ek6
    | 7, hq => cases hq; exact ek7
    | 8, hq => cases hq; exact ek8
    | 9, hq => cases hq; exact ek9
    | (k + 10), hq => simp [vwCl] at hq, fun k q hq => by
    match k, hq with
    | 0, hq =>
      rw [tysG_at (ty := .int) rfl] at hq
      cases hq
      exact ⟨fun n z => ⟨fun k h => (by cases h), ki, i2, pi, i3⟩, i1⟩
    | 1, hq =>
      rw [tysG_at (ty := .boolean) rfl] at hq
      cases hq
      exact ⟨fun n z => ⟨fun k h => (by cases h), kz, z2, pz, z3⟩, z1⟩
    | 2, hq =>
      rw [tysG_at (ty := .byte) rfl] at hq
      cases hq
      exact ⟨fun n z => ⟨fun k h => (by cases h), kb, b2, pb, b3⟩, b1⟩
    | 3, hq =>
      rw [tysG_at (ty := .object "FaceFlips$Heap") rfl] at hq
      cases hq
      exact ⟨fun n z => ⟨fun k h => (by cases h), kh, f2, ph, f3⟩, kh, ph, f2, f3, f1, f4⟩
    | 4, hq =>
      rw [tysG_at (ty := .array .boolean) rfl] at hq
      cases hq
      exact ⟨fun n z => ⟨fun k h => (by cases h), kzz, y2, pzz, y3⟩, y4⟩
    | 5, hq =>
      rw [tysG_at (ty := .array .int) rfl] at hq
      cases hq
      exact ⟨fun n z => ⟨fun k h => (by cases h), kii, x2, pii, x3⟩, x4⟩
    | (k + 6), hq => simp [tysG, tyL] at hq⟩
  have a36 : ad 136 = tf := had 136 (by decide)
  have a37 : ad 137 = tm := had 137 (by decide)
  have a38 : ad 138 = ts := had 138 (by decide)
  have eK : ∀ w, w < 12 → ad (112 + 2 * w) = adK w := fun w hw => (had _ (by omega)).trans (litf_k hw)
  have eV : ∀ w, w < 12 → ad (113 + 2 * w) = adV w := fun w hw => (had _ (by omega)).trans (litf_v hw)
  refine ⟨⟨hK, va_AO.of oh, over_moved (Vm.Alike.refl s.vm) ozz, over_moved (Vm.Alike.refl s.vm) oii, va_Nw.of rfl (hts (.methodLinkNest RX8 44 yX7_init RX8) (by decide +kernel)), va_Nw.of rfl (hts (.methodLinkNest RX8 51 yX4_init RX8) (by decide +kernel)), va_Nw.of rfl (hts (.methodLinkNest RX8 58 yX1_init RX8) (by decide +kernel)), va_Nw.of rfl (hts (.methodLinkNest RX8 72 yX6_init RX8) (by decide +kernel))⟩, ⟨hK, fun w hw => va_Nw.of (g_ns w hw).2 (hts w (g_ns w hw).1), fun q hq => ?_⟩, ?_⟩
  · obtain ⟨hw, h⟩ := g_sq q hq
    show vk_R q.1 q.2.1 (litT.getD q.2.2 "") (ad (112 + 2 * q.2.2)) s
    rw [eK _ hw]
    refine vk_R.of (A := #[Value.ref b]) (hts _ (g_sr q hq)) ?_
    have h5 : (Term.string q.1 q.2.1).eval #[Value.ref b] s none [] s = some (.ref (adK q.2.2)) := by
      rcases h with ⟨e1, e2⟩ | h
      · rw [e1, e2]
        exact hev _ hw
      · exact va_eqR (hs _ h) (hev _ hw)
    exact h5
  · refine ⟨⟨fun i hi => ?_, fun i j hi hj e => hvS.2 i j hi hj (by rw [← eK i hi, ← eK j hj]; exact e)⟩, ⟨?_, ?_⟩, ⟨?_, ?_⟩, zc, ?_⟩
    · have h5 := hvS.1 i hi
      rw [← eK i hi, ← eV i hi] at h5
      exact h5
    · show va_Z _ _ _ (.ref (ad 136)) _ _ _
      rw [a36]
      exact zf
    · show va_T _ (ad 136) _ _ _ _ _
      rw [a36]
      exact hf
    · show va_Z _ _ _ (.ref (ad 137)) _ _ _
      rw [a37]
      exact zm
    · show va_T _ (ad 137) _ _ _ _ _
      rw [a37]
      exact hm
    · rcases zs with h | h
      · exact Or.inl h
      · refine Or.inr ?_
        show va_Z _ _ _ (.ref (ad 138)) _ _ _
        rw [a38]
        exact h
