/-! THE MODEL: remembering, going back -/
def stL : List Nat := List.range' 79 8
theorem stL_in {j : Nat} (h : j < 8) : 79 + j ∈ stL := List.mem_range'_1.mpr ⟨by omega, by omega⟩
theorem nt_len {B : HP} {hs : List HP} (h : hs.length ≤ 8) : (nt B hs).length = if hs.length = 8 then 8 else hs.length + 1 := by
  rw [nt, List.length_take, List.length_cons]
  split <;> omega
theorem nt_at {B C : HP} {hs : List HP} {i : Nat} (h : (nt B hs)[i]? = some C) : i < 8 ∧ ((i = 0 ∧ C = B) ∨ (0 < i ∧ hs[i - 1]? = some C)) := by
  rw [nt, List.getElem?_take] at h
  split at h
  · rename_i h8
    refine ⟨h8, ?_⟩
    cases i with
    | zero =>
      simp only [List.getElem?_cons_zero, Option.some.injEq] at h
      exact Or.inl ⟨rfl, h.symm⟩
    | succ i =>
      simp only [List.getElem?_cons_succ] at h
      exact Or.inr ⟨Nat.succ_pos _, h⟩
  · cases h
set_option maxHeartbeats 8000000 in
theorem c_X9_remembers {l : Launch} {K : Nat} {B : HP} {hs : List HP} {μ : Mem} {Q : Option Value → Mem → Prop} (hK : HOK K B) (hB : BA μ 77 B) (hP : MP μ K hs) (hQ : ∀ μ', mg stL [6] μ μ' → MP μ' K (nt B hs) → Q none μ') : CC l 2 mX9_remembers [.ref 24] μ Q := by
  refine CC.of (M := mX9_remembers) (by decide +kernel) rfl (fun v h => by simp at h; subst h; rfl) (Nat.le_of_ble_eq_true rfl) (fun X hX => ?_)
  have hc := hX.cx
  have a77 := HA77
  have q27 := HQ27
  obtain ⟨p1, p2, p3⟩ := id hP
  have nl := nt_len (B := B) p1
  have F : ∀ (m : Nat) (ν : Mem) (w : Value), m < 8 → (nt B hs).length = m + 1 → mg stL [6] μ ν → BA ν 77 B → ν 24 6 = nI m → (∀ i C, 0 < i → (nt B hs)[i]? = some C → BA ν (79 + (m - i)) C) → TT X 50 [.ref 24, w] [] ν := by
    intro m ν w hm hl hf hB e6 hv
    have am := HAs hm
    refine tt_al0 (q := 51) hc dX9_remembers_50 rfl ?_
    refine tt_getR (q := 54) hc fl_X9_15 (by first | assumption | exact ⟨by decide, _, rfl, rfl⟩) dX9_remembers_51 rfl ?_
    refine tt_al0 (q := 55) hc dX9_remembers_54 rfl ?_
    refine tt_getR (q := 58) hc fl_X9_28 (by first | assumption | exact ⟨by decide, _, rfl, rfl⟩) dX9_remembers_55 rfl ?_
    refine tt_al0 (q := 59) hc dX9_remembers_58 rfl ?_
    refine tt_getI (q := 62) hc fl_X9_120 (by first | assumption | exact ⟨by decide, _, rfl, _, rfl⟩) dX9_remembers_59 rfl ?_
    rw [e6]
    refine tt_aald (q := 63) hc (r := _) (by first | assumption | exact ⟨by decide, rfl, by decide⟩) (by decide) (by omega) dX9_remembers_62 rfl ?_
    refine tt_cS2 (q := 66) (d' := 1) hc (by first | decide | omega) kmX9_lays ml_X9_123 (Nat.le_of_ble_eq_true rfl) dX9_remembers_63 rfl ?_
    refine c_X9_lays a77 am hB (fun ν' hf' hB' => ?_)
    have hf2 : mg stL [6] ν ν' := (mg.fr hf' (by simp; omega)).mono (fun i hi => by rw [List.mem_singleton.mp hi]; exact stL_in hm) (fun i hi => hi)
    have e62 : ν' 24 6 = nI m := by rw [hf' 24 (by simp; omega)]; exact e6
    dsimp only [Option.toList, List.nil_append, List.cons_append]
    refine tt_al0 (q := 67) hc dX9_remembers_66 rfl ?_
    refine tt_dup (q := 68) hc rfl dX9_remembers_67 rfl ?_
    refine tt_getI (q := 71) hc fl_X9_120 (by first | assumption | exact ⟨by decide, _, rfl, _, rfl⟩) dX9_remembers_68 rfl ?_
    rw [e62]
    refine tt_iconst (v := nI 1) (q := 72) hc rfl dX9_remembers_71 rfl ?_
    first | (with_reducible refine chk2 ?_; refine tt_iaddN (q := 73) hc dX9_remembers_72 rfl ?_) | refine tt_iadd (q := 73) hc dX9_remembers_72 rfl ?_
    refine tt_putI (q := 76) hc fp_X9_120 (by first | assumption | exact ⟨by decide, _, rfl, _, rfl⟩) dX9_remembers_73 rfl ?_
    refine tt_retv hX rfl dX9_remembers_76 ?_
    refine hQ _ (hf.tr (hf2.tr (mg.own (by decide)))) ⟨by omega, by rw [hl]; rfl, fun i C hC => ?_⟩
    have hi := (List.getElem?_eq_some_iff.mp hC).1
    have hat := nt_at hC
    rw [hl, Nat.add_sub_cancel]
    refine ⟨?_, ?_⟩
    · refine BA.mg (l := []) (p := [6]) ?_ (mg.own (by decide)) (by simp) (by omega)
      rcases hat.2 with ⟨e, e2⟩ | ⟨e, e2⟩
      · subst e
        subst e2
        exact hB'
      · intro s hs2
        rw [hf' _ (by simp; omega)]
        exact hv i C e hC s hs2
    · rcases hat.2 with ⟨e, e2⟩ | ⟨e, e2⟩
      · rw [e2]
        exact hK
      · exact (p3 _ C e2).2
  by_cases h8 : hs.length = 8
  · rw [if_pos h8] at nl
    rw [h8] at p2
    have L : ∀ (n k : Nat) (ν : Mem), k + n = 8 → 0 < k → mg stL [6] μ ν → BA ν 77 B → ν 24 6 = nI 8 → (∀ i C, hs[i]? = some C → k ≤ 7 - i → BA ν (79 + (7 - i)) C) → (∀ i C, hs[i]? = some C → i ≤ 6 → 7 - i < k → BA ν (79 + (6 - i)) C) → TT X 11 [.ref 24, .int (nI k)] [] ν := by
      intro n
      induction n with
      | zero =>
        intro k ν hk h0 hf hB e6 ha hb
        refine tt_il1 (q := 12) hc dX9_remembers_11 rfl ?_
        refine tt_bipush (v := nI 8) (q := 14) hc (by decide) dX9_remembers_12 rfl ?_
        first | (with_reducible refine chk2 ?_; refine tt_icgeN (t := 40) (q := 17) hc (by omega) (by omega) dX9_remembers_14 rfl rfl (fun c_14 => ?_) (fun c_14 => ?_)) | refine tt_icge (t := 40) (q := 17) hc dX9_remembers_14 rfl rfl (fun c_14 => ?_) (fun c_14 => ?_)
        · refine tt_al0 (q := 41) hc dX9_remembers_40 rfl ?_
          refine tt_dup (q := 42) hc rfl dX9_remembers_41 rfl ?_
          refine tt_getI (q := 45) hc fl_X9_120 (by first | assumption | exact ⟨by decide, _, rfl, _, rfl⟩) dX9_remembers_42 rfl ?_
          rw [e6]
          refine tt_iconst (v := nI 1) (q := 46) hc rfl dX9_remembers_45 rfl ?_
          first | (with_reducible refine chk2 ?_; refine tt_isubN (q := 47) hc (by omega) dX9_remembers_46 rfl ?_) | refine tt_isub (q := 47) hc dX9_remembers_46 rfl ?_
          refine tt_putI (q := 50) hc fp_X9_120 (by first | assumption | exact ⟨by decide, _, rfl, _, rfl⟩) dX9_remembers_47 rfl ?_
          refine F 7 _ _ (by decide) nl (hf.tr (mg.own (by decide))) (hB.mg (mg.own (l := []) (p := [6]) (by decide)) (by simp) (by decide)) rfl (fun i C hi hC => ?_)
          have hat := nt_at hC
          rcases hat.2 with ⟨e, e2⟩ | ⟨e, e2⟩
          · omega
          · have := hb (i - 1) C e2 (by omega) (by omega)
            rw [show 6 - (i - 1) = 7 - i by omega] at this
            exact this.mg (mg.own (l := []) (p := [6]) (by decide)) (by simp) (by omega)
        · omega
      | succ n ih =>
        intro k ν hk h0 hf hB e6 ha hb
        have hg := List.getElem?_eq_getElem (l := hs) (i := 7 - k) (by omega)
        have hC := ha (7 - k) _ hg (by omega)
        rw [show 7 - (7 - k) = k by omega] at hC
        have ak := HAs (show k < 8 by omega)
        have ak1 := HAs (show k - 1 < 8 by omega)
        refine tt_il1 (q := 12) hc dX9_remembers_11 rfl ?_
        refine tt_bipush (v := nI 8) (q := 14) hc (by decide) dX9_remembers_12 rfl ?_
        first | (with_reducible refine chk2 ?_; refine tt_icgeN (t := 40) (q := 17) hc (by omega) (by omega) dX9_remembers_14 rfl rfl (fun c_14 => ?_) (fun c_14 => ?_)) | refine tt_icge (t := 40) (q := 17) hc dX9_remembers_14 rfl rfl (fun c_14 => ?_) (fun c_14 => ?_)
        · omega
        · refine tt_al0 (q := 18) hc dX9_remembers_17 rfl ?_
          refine tt_getR (q := 21) hc fl_X9_28 (by first | assumption | exact ⟨by decide, _, rfl, rfl⟩) dX9_remembers_18 rfl ?_
          refine tt_il1 (q := 22) hc dX9_remembers_21 rfl ?_
          refine tt_aald (q := 23) hc (r := _) (by first | assumption | exact ⟨by decide, rfl, by decide⟩) (by decide) (by omega) dX9_remembers_22 rfl ?_
          refine tt_al0 (q := 24) hc dX9_remembers_23 rfl ?_
          refine tt_getR (q := 27) hc fl_X9_28 (by first | assumption | exact ⟨by decide, _, rfl, rfl⟩) dX9_remembers_24 rfl ?_
          refine tt_il1 (q := 28) hc dX9_remembers_27 rfl ?_
          refine tt_iconst (v := nI 1) (q := 29) hc rfl dX9_remembers_28 rfl ?_
          first | (with_reducible refine chk2 ?_; refine tt_isubN (q := 30) hc (by omega) dX9_remembers_29 rfl ?_) | refine tt_isub (q := 30) hc dX9_remembers_29 rfl ?_
          refine tt_aald (q := 31) hc (r := _) (by first | assumption | exact ⟨by decide, rfl, by decide⟩) (by decide) (by omega) dX9_remembers_30 rfl ?_
          refine tt_cS2 (q := 34) (d' := 1) hc (by first | decide | omega) kmX9_lays ml_X9_123 (Nat.le_of_ble_eq_true rfl) dX9_remembers_31 rfl ?_
          refine c_X9_lays ak ak1 hC (fun ν' hf' hB' => ?_)
          have hf2 : mg stL [6] ν ν' := (mg.fr hf' (by simp; omega)).mono (fun i hi => by rw [List.mem_singleton.mp hi]; exact stL_in (by omega)) (fun i hi => hi)
          dsimp only [Option.toList, List.nil_append, List.cons_append]
          first | refine tt_inc1 (q := 37) hc dX9_remembers_34 rfl (by decide) (incN _) ?_ | refine tt_inc1 (q := 37) hc dX9_remembers_34 rfl (by decide) rfl ?_
          refine tt_goto (t := 11) hc dX9_remembers_37 rfl ?_
          refine ih (k + 1) ν' (by omega) (by omega) (hf.tr hf2) (hB.mg hf2 (by decide) (by decide)) (by rw [hf' 24 (by simp; omega)]; exact e6) (fun i C hi h => ?_) (fun i C hi h6 h => ?_)
          · intro s hs2
            rw [hf' _ (by simp; omega)]
            exact ha i C hi (by omega) s hs2
          · by_cases e : 7 - i = k
            · have e2 : i = 7 - k := by omega
              rw [show 6 - i = k - 1 by omega]
              rw [e2, hg] at hi
              rw [← Option.some.inj hi]
              exact hB'
            · intro s hs2
              rw [hf' _ (by simp; omega)]
              exact hb i C hi h6 (by omega) s hs2
    refine tt_al0 (q := 1) hc dX9_remembers_0 rfl ?_
    refine tt_getI (q := 4) hc fl_X9_120 (by first | assumption | exact ⟨by decide, _, rfl, _, rfl⟩) dX9_remembers_1 rfl ?_
    refine tt_bipush (v := nI 8) (q := 6) hc (by decide) dX9_remembers_4 rfl ?_
    rw [p2]
    first | (with_reducible refine chk2 ?_; refine tt_icneN (t := 50) (q := 9) hc (by omega) (by omega) dX9_remembers_6 rfl rfl (fun c_6 => ?_) (fun c_6 => ?_)) | refine tt_icne (t := 50) (q := 9) hc dX9_remembers_6 rfl rfl (fun c_6 => ?_) (fun c_6 => ?_)
    · exact absurd rfl c_6
    · refine tt_iconst (v := nI 1) (q := 10) hc rfl dX9_remembers_9 rfl ?_
      refine tt_is1 (q := 11) hc dX9_remembers_10 rfl (by decide) ?_
      exact L 7 1 μ rfl (by decide) mg.rf hB p2 (fun i C hi h => by
        have := (p3 i C hi).1
        rw [h8] at this
        exact this) (fun i C hi h6 h => by omega)
  · rw [if_neg h8] at nl
    refine tt_al0 (q := 1) hc dX9_remembers_0 rfl ?_
    refine tt_getI (q := 4) hc fl_X9_120 (by first | assumption | exact ⟨by decide, _, rfl, _, rfl⟩) dX9_remembers_1 rfl ?_
    refine tt_bipush (v := nI 8) (q := 6) hc (by decide) dX9_remembers_4 rfl ?_
    rw [p2]
    first | (with_reducible refine chk2 ?_; refine tt_icneN (t := 50) (q := 9) hc (by omega) (by omega) dX9_remembers_6 rfl rfl (fun c_6 => ?_) (fun c_6 => ?_)) | refine tt_icne (t := 50) (q := 9) hc dX9_remembers_6 rfl rfl (fun c_6 => ?_) (fun c_6 => ?_)
    · refine F hs.length μ _ (by omega) nl mg.rf hB p2 (fun i C h0 hC => ?_)
      have hat := nt_at hC
      rcases hat.2 with ⟨e, e2⟩ | ⟨e, e2⟩
      · omega
      · have := (p3 _ C e2).1
        have hi := (List.getElem?_eq_some_iff.mp e2).1
        rw [show hs.length - 1 - (i - 1) = hs.length - i by omega] at this
        exact this
    · omega
theorem body_t {v : Int32} {K : Nat} (h : (inB v (nI 1) (nI 255) && decide (pop v.toNatClampNeg = K)) = true) : ∃ n, v = nI n ∧ n < 256 ∧ pop n = K ∧ inB (nI n) (nI 0) (nI 255) = true := by
  simp only [Bool.and_eq_true, decide_eq_true_eq] at h
  obtain ⟨n, h1, h2, rfl⟩ := inB_t (by decide) (by decide) h.1
  rw [nI_clamp (by omega)] at h
  exact ⟨n, rfl, by omega, h.2, inB_in (nI_nlt (by omega) (by omega)) (nI_nlt (by omega) (by omega))⟩
theorem body_f {v : Int32} {K : Nat} (hK : K = 3 ∨ K = 4) (h : (inB v (nI 1) (nI 255) && decide (pop v.toNatClampNeg = K)) = false) : ¬ (inB v (nI 0) (nI 255) = true ∧ pop v.toNatClampNeg = K) := fun z => by
  obtain ⟨n, h1, h2, rfl⟩ := inB_t (by decide) (by decide) z.1
  have hp := z.2
  rw [nI_clamp (by omega)] at hp
  have h0 : 0 < n := by
    rcases Nat.eq_zero_or_pos n with e | e
    · subst e
      have : pop 0 = 0 := by decide
      omega
    · exact e
  rw [nI_clamp (by omega), inB_in (nI_nlt (by omega) (by omega)) (nI_nlt (by omega) (by omega)), decide_eq_true hp] at h
  cases h
theorem tog_ba {ν : Mem} {B : HP} {b : Nat} {v : Int32} (h : BA ν 77 B) (hv : v = bI (!B b)) : BA (mset ν 77 (upd (ν 77) b v)) 77 (tog B b) := fun s hs => by
  rw [mset_eq, tog]
  by_cases e : s = b
  · subst e
    rw [pk_us, if_pos rfl, hv]
  · rw [pk_un e, if_neg e]
    exact h s hs
set_option maxHeartbeats 8000000 in
theorem c_X9_body {l : Launch} {v : Int32} {S : ST} {μ : Mem} {Q : Option Value → Mem → Prop} (hM : MR μ S) (hQ : ∀ μ', frm mL μ μ' → MR μ' (sp_body v S).2 → Q (some (.int (sp_body v S).1)) μ') : CC l 3 mX9_body [.ref 24, .int v] μ Q := by
  refine CC.of (M := mX9_body) (by decide +kernel) rfl (fun v h => by simp at h; rcases h with rfl | rfl <;> rfl) (Nat.le_of_ble_eq_true rfl) (fun X hX => ?_)
  have hc := hX.cx
  obtain ⟨K, B, hs, ks, im, ls, tx, pp⟩ := S
  obtain ⟨⟨a0, a1, a2⟩, a3, a4, a5, a6, a7, a8⟩ := id hM
  have a77 := HA77
  dsimp only [sp_body] at hQ
  have G : ∀ (n : Nat) (ν : Mem), n < 256 → pop n = K → v = nI n → mg stL [6] μ ν → MP ν K (nt B hs) → inB (nI n) (nI 0) (nI 255) = true → TT X 14 [.ref 24, .int (nI n)] [] ν := by
    intro n ν hn hp hv hf hP hin
    subst hv
    rw [if_pos ⟨hin, by rw [nI_clamp (by omega)]; exact hp⟩, nI_clamp (by omega)] at hQ
    have hB := a2.mg hf (by decide) (by decide)
    have hK := tog_ok a0 hn hp
    have D : ∀ (ν' : Mem), frm [77] ν ν' → BA ν' 77 (tog B n) → TT X 34 [.ref 24, .int (nI n)] [] ν' := by
      intro ν' hf' hB'
      have hm : mg (77 :: stL) [6] μ ν' := (hf.mono (fun i hi => List.mem_cons_of_mem _ hi) (fun i hi => hi)).tr ((mg.fr hf' (by decide)).mono (fun i hi => by rw [List.mem_singleton.mp hi]; exact List.mem_cons_self) (fun i hi => hi))
      refine tt_al0 (q := 35) hc dX9_body_34 rfl ?_
      refine tt_getR (q := 38) hc fl_X9_15 (by first | assumption | exact ⟨by decide, _, rfl, rfl⟩) dX9_body_35 rfl ?_
      refine tt_cS1 (q := 41) (d' := 0) hc (by first | decide | omega) kmX9_bodiesOf ml_X9_140 (Nat.le_of_ble_eq_true rfl) dX9_body_38 rfl ?_
      refine c_X9_bodiesOf a77 hK hB' ?_
      dsimp only [Option.toList, List.nil_append, List.cons_append]
      refine tt_reti hX rfl dX9_body_41 ?_
      exact hQ ν' (hm.ml (by decide)) (hM.step hm (hP.mg (mg.fr (p := [4]) hf' (by decide)) (by decide) (by decide)) hK hB')
    refine tt_al0 (q := 15) hc dX9_body_14 rfl ?_
    refine tt_getR (q := 18) hc fl_X9_15 (by first | assumption | exact ⟨by decide, _, rfl, rfl⟩) dX9_body_15 rfl ?_
    refine tt_il1 (q := 19) hc dX9_body_18 rfl ?_
    refine tt_al0 (q := 20) hc dX9_body_19 rfl ?_
    refine tt_getR (q := 23) hc fl_X9_15 (by first | assumption | exact ⟨by decide, _, rfl, rfl⟩) dX9_body_20 rfl ?_
    refine tt_il1 (q := 24) hc dX9_body_23 rfl ?_
    refine tt_zald (q := 25) hc (by first | assumption | exact ⟨by decide, rfl, by decide⟩) (by omega) dX9_body_24 rfl ?_
    rw [hB n hn]
    first | (with_reducible refine chkb ?_; refine tt_ifneB (t := 32) (q := 28) hc dX9_body_25 rfl rfl (fun c_25 => ?_) (fun c_25 => ?_)) | (with_reducible refine chk1 ?_; refine tt_ifneN (t := 32) (q := 28) hc (by omega) dX9_body_25 rfl rfl (fun c_25 => ?_) (fun c_25 => ?_)) | refine tt_ifne (t := 32) (q := 28) hc dX9_body_25 rfl rfl (fun c_25 => ?_) (fun c_25 => ?_)
    · refine tt_iconst (v := nI 0) (q := 33) hc rfl dX9_body_32 rfl ?_
      refine tt_zast (q := 34) hc (by first | assumption | exact ⟨by decide, rfl, by decide⟩) (by omega) (by first | decide | exact bI_01 _) dX9_body_33 rfl ?_
      first
      | exact D _ frm.set (tog_ba hB (by rw [c_25]; rfl))
    · refine tt_iconst (v := nI 1) (q := 29) hc rfl dX9_body_28 rfl ?_
      refine tt_goto (t := 33) hc dX9_body_29 rfl ?_
      refine tt_zast (q := 34) hc (by first | assumption | exact ⟨by decide, rfl, by decide⟩) (by omega) (by first | decide | exact bI_01 _) dX9_body_33 rfl ?_
      first
      | exact D _ frm.set (tog_ba hB (by rw [c_25]; rfl))
  refine tt_al0 (q := 1) hc dX9_body_0 rfl ?_
  refine tt_il1 (q := 2) hc dX9_body_1 rfl ?_
  refine tt_cV1 (q := 5) (d' := 2) (ci := 9) hc (by first | decide | omega) kmX9_isBody ml_X9_147 (by first | assumption | exact ⟨by decide, _, rfl⟩) rfl (Nat.le_of_ble_eq_true rfl) dX9_body_2 rfl ?_
  refine c_X9_isBody a0.1 a1 ?_
  dsimp only [Option.toList, List.nil_append, List.cons_append]
  first | (with_reducible refine chkb ?_; refine tt_ifneB (t := 10) (q := 8) hc dX9_body_5 rfl rfl (fun c_5 => ?_) (fun c_5 => ?_)) | (with_reducible refine chk1 ?_; refine tt_ifneN (t := 10) (q := 8) hc (by omega) dX9_body_5 rfl rfl (fun c_5 => ?_) (fun c_5 => ?_)) | refine tt_ifne (t := 10) (q := 8) hc dX9_body_5 rfl rfl (fun c_5 => ?_) (fun c_5 => ?_)
  · obtain ⟨n, hv, hn, hp, hin⟩ := body_t c_5
    refine tt_al0 (q := 11) hc dX9_body_10 rfl ?_
    refine tt_cV0 (q := 14) (d' := 2) (ci := 9) hc (by first | decide | omega) kmX9_remembers ml_X9_130 (by first | assumption | exact ⟨by decide, _, rfl⟩) rfl (Nat.le_of_ble_eq_true rfl) dX9_body_11 rfl ?_
    refine c_X9_remembers a0 a2 a3 (fun ν hf hP => ?_)
    dsimp only [Option.toList, List.nil_append, List.cons_append]
    subst hv
    exact G n ν hn hp rfl hf hP hin
  · refine tt_iconst (v := -1) (q := 9) hc rfl dX9_body_8 rfl ?_
    refine tt_reti hX rfl dX9_body_9 ?_
    rw [if_neg (body_f a0.1 c_5)] at hQ
    exact hQ μ frm.rf hM
set_option maxHeartbeats 8000000 in
theorem c_X9_back {l : Launch} {S : ST} {μ : Mem} {Q : Option Value → Mem → Prop} (hM : MR μ S) (hQ : ∀ μ', frm mL μ μ' → MR μ' (sp_back S).2 → Q (some (.int (sp_back S).1)) μ') : CC l 2 mX9_back [.ref 24] μ Q := by
  refine CC.of (M := mX9_back) (by decide +kernel) rfl (fun v h => by simp at h; subst h; rfl) (Nat.le_of_ble_eq_true rfl) (fun X hX => ?_)
  have hc := hX.cx
  obtain ⟨K, B, hs, ks, im, ls, tx, pp⟩ := S
  obtain ⟨⟨a0, a1, a2⟩, a3, a4, a5, a6, a7, a8⟩ := id hM
  have a77 := HA77
  have q27 := HQ27
  obtain ⟨b1, b2, b3⟩ := id a3
  dsimp only [sp_back] at hQ
  cases hs with
  | nil =>
    refine tt_al0 (q := 1) hc dX9_back_0 rfl ?_
    refine tt_getI (q := 4) hc fl_X9_120 (by first | assumption | exact ⟨by decide, _, rfl, _, rfl⟩) dX9_back_1 rfl ?_
    rw [b2]
    first | (with_reducible refine chkb ?_; refine tt_ifneB (t := 10) (q := 7) hc dX9_back_4 rfl rfl (fun c_4 => ?_) (fun c_4 => ?_)) | (with_reducible refine chk1 ?_; refine tt_ifneN (t := 10) (q := 7) hc (by omega) dX9_back_4 rfl rfl (fun c_4 => ?_) (fun c_4 => ?_)) | refine tt_ifne (t := 10) (q := 7) hc dX9_back_4 rfl rfl (fun c_4 => ?_) (fun c_4 => ?_)
    · exact absurd c_4 (Nat.lt_irrefl 0)
    · refine tt_bipush (v := -3) (q := 9) hc (by decide) dX9_back_7 rfl ?_
      refine tt_reti hX rfl dX9_back_9 ?_
      exact hQ μ frm.rf hM
  | cons C r =>
    dsimp only at hQ
    rw [List.length_cons] at b1 b2
    have hC := b3 0 C rfl
    rw [List.length_cons, Nat.add_sub_cancel, Nat.sub_zero] at hC
    have ar := HAs (show r.length < 8 by omega)
    have F : ∀ (ν : Mem), mg [] [6] μ ν → ν 24 6 = nI r.length → TT X 20 [.ref 24] [] ν := by
      intro ν hf e6
      have hCν := hC.1.mg hf (by simp) (by omega)
      refine tt_al0 (q := 21) hc dX9_back_20 rfl ?_
      refine tt_getR (q := 24) hc fl_X9_28 (by first | assumption | exact ⟨by decide, _, rfl, rfl⟩) dX9_back_21 rfl ?_
      refine tt_al0 (q := 25) hc dX9_back_24 rfl ?_
      refine tt_getI (q := 28) hc fl_X9_120 (by first | assumption | exact ⟨by decide, _, rfl, _, rfl⟩) dX9_back_25 rfl ?_
      rw [e6]
      refine tt_aald (q := 29) hc (r := _) (by first | assumption | exact ⟨by decide, rfl, by decide⟩) (by decide) (by omega) dX9_back_28 rfl ?_
      refine tt_al0 (q := 30) hc dX9_back_29 rfl ?_
      refine tt_getR (q := 33) hc fl_X9_15 (by first | assumption | exact ⟨by decide, _, rfl, rfl⟩) dX9_back_30 rfl ?_
      refine tt_cS2 (q := 36) (d' := 1) hc (by first | decide | omega) kmX9_lays ml_X9_123 (Nat.le_of_ble_eq_true rfl) dX9_back_33 rfl ?_
      refine c_X9_lays ar a77 hCν (fun ν' hf' hB' => ?_)
      have hm : mg (77 :: stL) [6] μ ν' := (hf.mono (fun i hi => by cases hi) (fun i hi => hi)).tr ((mg.fr hf' (by decide)).mono (fun i hi => by rw [List.mem_singleton.mp hi]; exact List.mem_cons_self) (fun i hi => hi))
      dsimp only [Option.toList, List.nil_append, List.cons_append]
      refine tt_al0 (q := 37) hc dX9_back_36 rfl ?_
      refine tt_getR (q := 40) hc fl_X9_15 (by first | assumption | exact ⟨by decide, _, rfl, rfl⟩) dX9_back_37 rfl ?_
      refine tt_cS1 (q := 43) (d' := 0) hc (by first | decide | omega) kmX9_bodiesOf ml_X9_140 (Nat.le_of_ble_eq_true rfl) dX9_back_40 rfl ?_
      refine c_X9_bodiesOf a77 hC.2 hB' ?_
      dsimp only [Option.toList, List.nil_append, List.cons_append]
      refine tt_reti hX rfl dX9_back_43 ?_
      refine hQ ν' (hm.ml (by decide)) (hM.step hm ⟨by omega, by rw [hf' 24 (by decide)]; exact e6, fun i D hD => ?_⟩ hC.2 hB')
      have hi := (List.getElem?_eq_some_iff.mp hD).1
      have := b3 (i + 1) D hD
      rw [List.length_cons, Nat.add_sub_cancel, show r.length - (i + 1) = r.length - 1 - i by omega] at this
      exact ⟨(this.1.mg hf (by simp) (by omega)).mg (mg.fr (p := []) hf' (by decide)) (by simp; omega) (by omega), this.2⟩
    refine tt_al0 (q := 1) hc dX9_back_0 rfl ?_
    refine tt_getI (q := 4) hc fl_X9_120 (by first | assumption | exact ⟨by decide, _, rfl, _, rfl⟩) dX9_back_1 rfl ?_
    rw [b2]
    first | (with_reducible refine chkb ?_; refine tt_ifneB (t := 10) (q := 7) hc dX9_back_4 rfl rfl (fun c_4 => ?_) (fun c_4 => ?_)) | (with_reducible refine chk1 ?_; refine tt_ifneN (t := 10) (q := 7) hc (by omega) dX9_back_4 rfl rfl (fun c_4 => ?_) (fun c_4 => ?_)) | refine tt_ifne (t := 10) (q := 7) hc dX9_back_4 rfl rfl (fun c_4 => ?_) (fun c_4 => ?_)
    · refine tt_al0 (q := 11) hc dX9_back_10 rfl ?_
      refine tt_dup (q := 12) hc rfl dX9_back_11 rfl ?_
      refine tt_getI (q := 15) hc fl_X9_120 (by first | assumption | exact ⟨by decide, _, rfl, _, rfl⟩) dX9_back_12 rfl ?_
      rw [b2]
      refine tt_iconst (v := nI 1) (q := 16) hc rfl dX9_back_15 rfl ?_
      first | (with_reducible refine chk2 ?_; refine tt_isubN (q := 17) hc (by omega) dX9_back_16 rfl ?_) | refine tt_isub (q := 17) hc dX9_back_16 rfl ?_
      refine tt_putI (q := 20) hc fp_X9_120 (by first | assumption | exact ⟨by decide, _, rfl, _, rfl⟩) dX9_back_17 rfl ?_
      exact F _ (mg.own (by decide)) rfl
    · exact absurd c_4 (Nat.succ_ne_zero _)
