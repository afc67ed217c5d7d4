/-! CALLS -/
theorem va_clsOf {U : State} {g : Geo} {μ : Mem} {H : Heap} {b ci : Nat} {C : String} {T : u_T} {N : Nat} (hK : KK g U) (hP : va_P (gD g) vwCl (wls g μ) H) (hO : HO b ci) (hc : vwCl[ci]? = some (C, T, N)) : ∃ cell : Cell, H[g.2.2.1 b]? = some cell ∧ cell.vm.isStatics = false ∧ U.vm.findClass C = some cell.cls := by
  obtain ⟨hb, fs, hs⟩ := hO
  have hw : (wls g μ)[b]? = some (g.2.2.1 b, .inr (ci, fs.mapIdx (fun k d => fval g (μ b) k d))) := by
    rw [wls_at g μ hb, hs]
    rfl
  exact va_recv hK.1 hP hc hw
theorem pc_blind {g : Geo} {as : List Value} {sz : Nat} {μ : Mem} : FrameBlind (va_Pc (as.map (tv g)) (fun U => U.heap.size = sz ∧ KK g U ∧ va_P (gD g) vwCl (wls g μ) U.heap ∧ SS g (AA g sz) U U.heap)) := fun a U f mk q => ⟨q.1, q.2.1, KK.same (u := U) (U := U.calling f mk a) rfl q.2.2.1, q.2.2.2.1, SS.moved (u := U) (U := U.calling f mk a) (Vm.Alike.refl U.vm) q.2.2.2.2⟩
theorem pc_at {g : Geo} {s U : State} {H : Heap} {locs : List Loc} {as : List Value} {μ : Mem} (hK : KK g s) (hSS : SS g (AA g s.heap.size) s s.heap) (hP : va_P (gD g) vwCl (wls g μ) H) (hS : va_S (AA g s.heap.size) s.heap H locs) (hU : U.heap = H) (hW : s.WarmedH U.vm) : va_Pc (as.map (tv g)) (fun U => U.heap.size = H.size ∧ KK g U ∧ va_P (gD g) vwCl (wls g μ) U.heap ∧ SS g (AA g H.size) U U.heap) (as.map (tv g)).toArray U := by
  refine ⟨rfl, by rw [hU], hK.warm hW, by rw [hU]; exact hP, ?_⟩
  rw [hU]
  exact ((hSS.kept hS.2.1).narrow (fun q h => h.elim Or.inl (fun h => Or.inr (Nat.le_trans hS.1 h)))).moved hW.alike
theorem tt_run {p : Program} {l : Launch} {e : Env} {R : Room} {s : State} {m : MethodId} {args : Array Value} {below : List Frame} {meth : Method} {c : Code} {Z : State → Prop} {ce sl pc : Nat} {g : Geo} {H : Heap} {locs : List Loc} {ls : Array Slot} {st0 : List Value} {S L : List Value} {nL : Nat} {Q : Option Value → Mem → Prop} {a : Array Value}
    (hr : va_Run p l e R s m args below meth c H locs ce sl 0 0 (F0 m pc ls st0) (S.map (tv g)) (QQ g Q (AA g H.size) a) (AA g H.size)) (hS : va_S (AA g s.heap.size) s.heap H locs) (hl : lv_has ls nL (tl g 0 L))
    (kk : ∀ (r : Option Value) (μ' : Mem), Q r μ' → TTof p l e R s m args below meth c Z ce sl g nL (pc + 3) L (r.toList ++ S) μ') : W p l e R s m args below meth c H locs ce sl Z (F0 m pc ls st0) := by
  have hA : ∀ q, AA g H.size q → AA g s.heap.size q := fun q h => h.elim Or.inl (fun h => Or.inr (Nat.le_trans hS.1 h))
  intro T hT X
  obtain ⟨v, st₀, t, T', L9, h0, X', hL, e1, e2, ⟨⟨r, μ', hv, hq, hP'⟩, hz, hk⟩, st⟩ := hr T hT X
  have hv' : v = r.map (tv g) := by injection hv
  subst hv'
  rw [h0] at hz hk
  have hS' : va_S (AA g s.heap.size) s.heap T'.heap (locs ++ L9) := ⟨Nat.le_trans hS.1 (by rw [e1]; exact hz), fun q h1 h2 => by rw [e1, hk q (Nat.lt_of_lt_of_le h1 hS.1) (fun z => h2 (hA q z))]; exact hS.2.1 q h1 h2, fun q hq => by
    rcases List.mem_append.mp hq with h | h
    · exact hS.2.2 q h
    · exact hA _ (hL q h)⟩
  have k2 := kk r μ' hq T'.heap (locs ++ L9) ls (by rw [e1]; exact hP') hS' hl
  have hst : (r.map (tv g)).toList ++ S.map (tv g) = (r.toList ++ S).map (tv g) := by cases r <;> rfl
  obtain ⟨t2, a1, b1⟩ := k2 T' rfl X'
  refine ⟨t2, st t2 ?_, b1⟩
  have hg : ({ (F0 m pc ls st0) with pc := (F0 m pc ls st0).pc + 3, stack := (r.map (tv g)).toList ++ S.map (tv g) } : JFrame) = F0 m (pc + 3) ls ((r.toList ++ S).map (tv g)) := by rw [hst]
  rw [hg]
  exact a1
section CV
variable {X : XT} {l : Launch} {d : Nat} {M : MD}
theorem tt_catM (g : Geo) (S : List Value) : ((S.map (tv g)).map fun v => v.category).sum = (S.map fun v => v.category).sum := by
  rw [List.map_map]
  congr 1
  apply List.map_congr_left
  intro v _
  cases v <;> rfl
theorem tt_callVg (hX : Cx X l d M) {d' : Nat} (hdd : d' + 1 ≤ d) {M' : MD} {n ci : Nat} {T : u_T} {N : Nat} (hM : MKV M' n) {idx : Nat} (hlk : Cond.methodLink M.2.2.2.2 idx M'.1 ∈ wsL_law) {pc q b : Nat} {L S st as : List Value} {μ : Mem} (hO : HO b ci) (hc : vwCl[ci]? = some (M'.2.2.2.2, T, N)) (hn : as.length = n) (hst : st = as.reverse ++ .ref b :: S) (hcat : (S.map fun v => v.category).sum ≤ 8) (hd : decode M.2.1 pc = .ok (.invokevirtual idx, 3)) (hq : pc + 3 = q) (k : CC l d' M' (.ref b :: as) μ (fun r μ' => TT X q L (r.toList ++ S) μ')) : TT X pc L st μ := by
  obtain ⟨p, l', e, R, s, m, args, below, meth, c, Z, ce, sl, g, M0, n0⟩ := X
  obtain ⟨rfl, rfl, rfl, hx, hb, hml, ho, hts, hK, hSS, hg, hfr, hlo, hce, hsl⟩ := hX
  subst hq
  subst hst
  intro H locs ls hP hS hl
  obtain ⟨m1, m2, m3, m4, m5, m6, m7⟩ := hM
  have hgi : GoodIn wsL_law (mws M') := fun w hw => (List.mem_cons.mp hw).elim (fun e => by rw [e]; exact goodL _ m1) (goodL w)
  refine tt_run (L := L) (S := S) (Q := fun r μ' => TTof p l' e R s m args below meth c Z ce sl g M0.2.2.1 (pc + 3) L (r.toList ++ S) μ') (va_runV (C := M'.2.2.2.2) (As := as.map (tv g)) (rest := S.map (tv g)) (n := n) ⟨hx, hb, hml, ho, hts⟩ (k g H.size hg) ⟨callB_of (ws := mws M') (rm := rmd d') n hts hgi rfl rfl rfl (by rw [m7]; exact hts _ m2) (hts _ hlk) m5 ⟨by show d' + 1 ≤ R.frames; omega, by show 8 + (M'.2.2.1 + 11) + 40 * d' ≤ R.locals; omega⟩, hts _ m3, hts _ m4⟩ ⟨pc_blind, va_clsOf hK hP hO hc, fun U hU hW => pc_at (as := .ref b :: as) hK hSS hP hS hU hW⟩ rfl (by rw [List.length_map]; exact hn) hl.1 (by show _ = _; rw [List.map_append, List.map_reverse]; rfl) (lv_room (by rw [tt_catM]; exact hcat)) hd ⟨hce, hsl⟩) hS hl (fun r μ' h => h)
theorem tt_callSg (hX : Cx X l d M) {d' : Nat} (hdd : d' + 1 ≤ d) {M' : MD} {n : Nat} (hM : MKS M' n) {idx : Nat} (hlk : Cond.methodLink M.2.2.2.2 idx M'.1 ∈ wsL_law) {pc q : Nat} {L S st as : List Value} {μ : Mem} (hn : as.length = n) (hst : st = as.reverse ++ S) (hcat : (S.map fun v => v.category).sum ≤ 8) (hd : decode M.2.1 pc = .ok (.invokestatic idx, 3)) (hq : pc + 3 = q) (k : CC l d' M' as μ (fun r μ' => TT X q L (r.toList ++ S) μ')) : TT X pc L st μ := by
  obtain ⟨p, l', e, R, s, m, args, below, meth, c, Z, ce, sl, g, M0, n0⟩ := X
  obtain ⟨rfl, rfl, rfl, hx, hb, hml, ho, hts, hK, hSS, hg, hfr, hlo, hce, hsl⟩ := hX
  subst hq
  subst hst
  intro H locs ls hP hS hl
  obtain ⟨m1, m2, m3, m5, m6, m7⟩ := hM
  have hgi : GoodIn wsL_law (mws M') := fun w hw => (List.mem_cons.mp hw).elim (fun e => by rw [e]; exact goodL _ m1) (goodL w)
  refine tt_run (L := L) (S := S) (Q := fun r μ' => TTof p l' e R s m args below meth c Z ce sl g M0.2.2.1 (pc + 3) L (r.toList ++ S) μ') (va_runS (As := as.map (tv g)) (rest := S.map (tv g)) (n := n) ⟨hx, hb, hml, ho, hts⟩ (k g H.size hg) ⟨callB_of (ws := mws M') (rm := rmd d') n hts hgi rfl rfl rfl (by rw [m7]; exact hts _ m2) (hts _ hlk) m5 ⟨by show d' + 1 ≤ R.frames; omega, by show 8 + (M'.2.2.1 + 11) + 40 * d' ≤ R.locals; omega⟩, hts _ m3⟩ ⟨pc_blind, fun U hU hW => pc_at hK hSS hP hS hU hW⟩ rfl (by rw [List.length_map]; exact hn) hl.1 (by show _ = _; rw [List.map_append, List.map_reverse]) (lv_room (by rw [tt_catM]; exact hcat)) hd ⟨hce, hsl⟩) hS hl (fun r μ' h => h)
theorem tt_cV0 (hX : Cx X l d M) {d' : Nat} (hdd : d' + 1 ≤ d) {M' : MD} {ci : Nat} {T : u_T} {N : Nat} (hM : MKV M' 0) {idx : Nat} (hlk : Cond.methodLink M.2.2.2.2 idx M'.1 ∈ wsL_law) {pc q b : Nat} {L S : List Value}  {μ : Mem} (hO : HO b ci) (hc : vwCl[ci]? = some (M'.2.2.2.2, T, N)) (hcat : (S.map fun v => v.category).sum ≤ 8) (hd : decode M.2.1 pc = .ok (.invokevirtual idx, 3)) (hq : pc + 3 = q) (k : CC l d' M' (.ref b :: []) μ (fun r μ' => TT X q L (r.toList ++ S) μ')) : TT X pc L (.ref b :: S) μ := tt_callVg hX hdd hM hlk (as := []) hO hc rfl rfl hcat hd hq k
theorem tt_cS0 (hX : Cx X l d M) {d' : Nat} (hdd : d' + 1 ≤ d) {M' : MD} (hM : MKS M' 0) {idx : Nat} (hlk : Cond.methodLink M.2.2.2.2 idx M'.1 ∈ wsL_law) {pc q : Nat} {L S : List Value}  {μ : Mem} (hcat : (S.map fun v => v.category).sum ≤ 8) (hd : decode M.2.1 pc = .ok (.invokestatic idx, 3)) (hq : pc + 3 = q) (k : CC l d' M' [] μ (fun r μ' => TT X q L (r.toList ++ S) μ')) : TT X pc L (S) μ := tt_callSg hX hdd hM hlk (as := []) rfl rfl hcat hd hq k
theorem tt_cV1 (hX : Cx X l d M) {d' : Nat} (hdd : d' + 1 ≤ d) {M' : MD} {ci : Nat} {T : u_T} {N : Nat} (hM : MKV M' 1) {idx : Nat} (hlk : Cond.methodLink M.2.2.2.2 idx M'.1 ∈ wsL_law) {pc q b : Nat} {L S : List Value} {v1 : Value} {μ : Mem} (hO : HO b ci) (hc : vwCl[ci]? = some (M'.2.2.2.2, T, N)) (hcat : (S.map fun v => v.category).sum ≤ 8) (hd : decode M.2.1 pc = .ok (.invokevirtual idx, 3)) (hq : pc + 3 = q) (k : CC l d' M' (.ref b :: [v1]) μ (fun r μ' => TT X q L (r.toList ++ S) μ')) : TT X pc L (v1 :: .ref b :: S) μ := tt_callVg hX hdd hM hlk (as := [v1]) hO hc rfl rfl hcat hd hq k
theorem tt_cS1 (hX : Cx X l d M) {d' : Nat} (hdd : d' + 1 ≤ d) {M' : MD} (hM : MKS M' 1) {idx : Nat} (hlk : Cond.methodLink M.2.2.2.2 idx M'.1 ∈ wsL_law) {pc q : Nat} {L S : List Value} {v1 : Value} {μ : Mem} (hcat : (S.map fun v => v.category).sum ≤ 8) (hd : decode M.2.1 pc = .ok (.invokestatic idx, 3)) (hq : pc + 3 = q) (k : CC l d' M' [v1] μ (fun r μ' => TT X q L (r.toList ++ S) μ')) : TT X pc L (v1 :: S) μ := tt_callSg hX hdd hM hlk (as := [v1]) rfl rfl hcat hd hq k
theorem tt_cV2 (hX : Cx X l d M) {d' : Nat} (hdd : d' + 1 ≤ d) {M' : MD} {ci : Nat} {T : u_T} {N : Nat} (hM : MKV M' 2) {idx : Nat} (hlk : Cond.methodLink M.2.2.2.2 idx M'.1 ∈ wsL_law) {pc q b : Nat} {L S : List Value} {v1 v2 : Value} {μ : Mem} (hO : HO b ci) (hc : vwCl[ci]? = some (M'.2.2.2.2, T, N)) (hcat : (S.map fun v => v.category).sum ≤ 8) (hd : decode M.2.1 pc = .ok (.invokevirtual idx, 3)) (hq : pc + 3 = q) (k : CC l d' M' (.ref b :: [v1, v2]) μ (fun r μ' => TT X q L (r.toList ++ S) μ')) : TT X pc L (v2 :: v1 :: .ref b :: S) μ := tt_callVg hX hdd hM hlk (as := [v1, v2]) hO hc rfl rfl hcat hd hq k
theorem tt_cS2 (hX : Cx X l d M) {d' : Nat} (hdd : d' + 1 ≤ d) {M' : MD} (hM : MKS M' 2) {idx : Nat} (hlk : Cond.methodLink M.2.2.2.2 idx M'.1 ∈ wsL_law) {pc q : Nat} {L S : List Value} {v1 v2 : Value} {μ : Mem} (hcat : (S.map fun v => v.category).sum ≤ 8) (hd : decode M.2.1 pc = .ok (.invokestatic idx, 3)) (hq : pc + 3 = q) (k : CC l d' M' [v1, v2] μ (fun r μ' => TT X q L (r.toList ++ S) μ')) : TT X pc L (v2 :: v1 :: S) μ := tt_callSg hX hdd hM hlk (as := [v1, v2]) rfl rfl hcat hd hq k
theorem tt_cV3 (hX : Cx X l d M) {d' : Nat} (hdd : d' + 1 ≤ d) {M' : MD} {ci : Nat} {T : u_T} {N : Nat} (hM : MKV M' 3) {idx : Nat} (hlk : Cond.methodLink M.2.2.2.2 idx M'.1 ∈ wsL_law) {pc q b : Nat} {L S : List Value} {v1 v2 v3 : Value} {μ : Mem} (hO : HO b ci) (hc : vwCl[ci]? = some (M'.2.2.2.2, T, N)) (hcat : (S.map fun v => v.category).sum ≤ 8) (hd : decode M.2.1 pc = .ok (.invokevirtual idx, 3)) (hq : pc + 3 = q) (k : CC l d' M' (.ref b :: [v1, v2, v3]) μ (fun r μ' => TT X q L (r.toList ++ S) μ')) : TT X pc L (v3 :: v2 :: v1 :: .ref b :: S) μ := tt_callVg hX hdd hM hlk (as := [v1, v2, v3]) hO hc rfl rfl hcat hd hq k
theorem tt_cS3 (hX : Cx X l d M) {d' : Nat} (hdd : d' + 1 ≤ d) {M' : MD} (hM : MKS M' 3) {idx : Nat} (hlk : Cond.methodLink M.2.2.2.2 idx M'.1 ∈ wsL_law) {pc q : Nat} {L S : List Value} {v1 v2 v3 : Value} {μ : Mem} (hcat : (S.map fun v => v.category).sum ≤ 8) (hd : decode M.2.1 pc = .ok (.invokestatic idx, 3)) (hq : pc + 3 = q) (k : CC l d' M' [v1, v2, v3] μ (fun r μ' => TT X q L (r.toList ++ S) μ')) : TT X pc L (v3 :: v2 :: v1 :: S) μ := tt_callSg hX hdd hM hlk (as := [v1, v2, v3]) rfl rfl hcat hd hq k
theorem tt_cV4 (hX : Cx X l d M) {d' : Nat} (hdd : d' + 1 ≤ d) {M' : MD} {ci : Nat} {T : u_T} {N : Nat} (hM : MKV M' 4) {idx : Nat} (hlk : Cond.methodLink M.2.2.2.2 idx M'.1 ∈ wsL_law) {pc q b : Nat} {L S : List Value} {v1 v2 v3 v4 : Value} {μ : Mem} (hO : HO b ci) (hc : vwCl[ci]? = some (M'.2.2.2.2, T, N)) (hcat : (S.map fun v => v.category).sum ≤ 8) (hd : decode M.2.1 pc = .ok (.invokevirtual idx, 3)) (hq : pc + 3 = q) (k : CC l d' M' (.ref b :: [v1, v2, v3, v4]) μ (fun r μ' => TT X q L (r.toList ++ S) μ')) : TT X pc L (v4 :: v3 :: v2 :: v1 :: .ref b :: S) μ := tt_callVg hX hdd hM hlk (as := [v1, v2, v3, v4]) hO hc rfl rfl hcat hd hq k
theorem tt_cS4 (hX : Cx X l d M) {d' : Nat} (hdd : d' + 1 ≤ d) {M' : MD} (hM : MKS M' 4) {idx : Nat} (hlk : Cond.methodLink M.2.2.2.2 idx M'.1 ∈ wsL_law) {pc q : Nat} {L S : List Value} {v1 v2 v3 v4 : Value} {μ : Mem} (hcat : (S.map fun v => v.category).sum ≤ 8) (hd : decode M.2.1 pc = .ok (.invokestatic idx, 3)) (hq : pc + 3 = q) (k : CC l d' M' [v1, v2, v3, v4] μ (fun r μ' => TT X q L (r.toList ++ S) μ')) : TT X pc L (v4 :: v3 :: v2 :: v1 :: S) μ := tt_callSg hX hdd hM hlk (as := [v1, v2, v3, v4]) rfl rfl hcat hd hq k
theorem tt_cV5 (hX : Cx X l d M) {d' : Nat} (hdd : d' + 1 ≤ d) {M' : MD} {ci : Nat} {T : u_T} {N : Nat} (hM : MKV M' 5) {idx : Nat} (hlk : Cond.methodLink M.2.2.2.2 idx M'.1 ∈ wsL_law) {pc q b : Nat} {L S : List Value} {v1 v2 v3 v4 v5 : Value} {μ : Mem} (hO : HO b ci) (hc : vwCl[ci]? = some (M'.2.2.2.2, T, N)) (hcat : (S.map fun v => v.category).sum ≤ 8) (hd : decode M.2.1 pc = .ok (.invokevirtual idx, 3)) (hq : pc + 3 = q) (k : CC l d' M' (.ref b :: [v1, v2, v3, v4, v5]) μ (fun r μ' => TT X q L (r.toList ++ S) μ')) : TT X pc L (v5 :: v4 :: v3 :: v2 :: v1 :: .ref b :: S) μ := tt_callVg hX hdd hM hlk (as := [v1, v2, v3, v4, v5]) hO hc rfl rfl hcat hd hq k
theorem tt_cS5 (hX : Cx X l d M) {d' : Nat} (hdd : d' + 1 ≤ d) {M' : MD} (hM : MKS M' 5) {idx : Nat} (hlk : Cond.methodLink M.2.2.2.2 idx M'.1 ∈ wsL_law) {pc q : Nat} {L S : List Value} {v1 v2 v3 v4 v5 : Value} {μ : Mem} (hcat : (S.map fun v => v.category).sum ≤ 8) (hd : decode M.2.1 pc = .ok (.invokestatic idx, 3)) (hq : pc + 3 = q) (k : CC l d' M' [v1, v2, v3, v4, v5] μ (fun r μ' => TT X q L (r.toList ++ S) μ')) : TT X pc L (v5 :: v4 :: v3 :: v2 :: v1 :: S) μ := tt_callSg hX hdd hM hlk (as := [v1, v2, v3, v4, v5]) rfl rfl hcat hd hq k
end CV
/-! ENDS OF A METHOD -/
section EN
variable {X : XT} {l : Launch} {d : Nat} {M : MD} {Q : Option Value → Mem → Prop}
theorem tt_reti (hX : Cm X l d M Q) (hr : M.2.2.2.1 = some .int) {pc : Nat} {L : List Value} {μ : Mem} {v : Int32} (hd : decode M.2.1 pc = .ok (.ireturn, 1)) (k : Q (some (.int v)) μ) : TT X pc L [.int v] μ := by
  obtain ⟨p, l', e, R, s, m, args, below, meth, c, Z, ce, sl, g, M', n0⟩ := X
  obtain ⟨⟨rfl, rfl, rfl, hx, hb, hml, ho, hts, hK, hSS, hg, hfr, hlo, hce, hsl⟩, hlk, hrt, rfl, rfl, rfl⟩ := hX
  intro H locs ls hP hS hl
  exact W.iret hx hb (hrt.trans hr) (fun t ht hW => ⟨⟨some (.int v), μ, rfl, k, by rw [ht]; exact hP⟩, hS.F ht⟩) hS.2.2 hd hlk
theorem tt_retz (hX : Cm X l d M Q) (hr : M.2.2.2.1 = some .boolean) {pc : Nat} {L : List Value} {μ : Mem} {v : Int32} (hv : v = 0 ∨ v = 1) (hd : decode M.2.1 pc = .ok (.ireturn, 1)) (k : Q (some (.int v)) μ) : TT X pc L [.int v] μ := by
  obtain ⟨p, l', e, R, s, m, args, below, meth, c, Z, ce, sl, g, M', n0⟩ := X
  obtain ⟨⟨rfl, rfl, rfl, hx, hb, hml, ho, hts, hK, hSS, hg, hfr, hlo, hce, hsl⟩, hlk, hrt, rfl, rfl, rfl⟩ := hX
  intro H locs ls hP hS hl
  exact W.zret hx hb (hrt.trans hr) (by rcases hv with rfl | rfl <;> rfl) (fun t ht hW => ⟨⟨some (.int v), μ, rfl, k, by rw [ht]; exact hP⟩, hS.F ht⟩) hS.2.2 hd hlk
theorem tt_retx (hX : Cm X l d M Q) {ty : FieldType} (hr : M.2.2.2.1 = some ty) {pc : Nat} {L : List Value} {μ : Mem} {v : Int32} (hv : narrow ty (.int v) = .int v) (hd : decode M.2.1 pc = .ok (.ireturn, 1)) (k : Q (some (.int v)) μ) : TT X pc L [.int v] μ := by
  obtain ⟨p, l', e, R, s, m, args, below, meth, c, Z, ce, sl, g, M', n0⟩ := X
  obtain ⟨⟨rfl, rfl, rfl, hx, hb, hml, ho, hts, hK, hSS, hg, hfr, hlo, hce, hsl⟩, hlk, hrt, rfl, rfl, rfl⟩ := hX
  intro H locs ls hP hS hl
  exact W.zret hx hb (hrt.trans hr) hv (fun t ht hW => ⟨⟨some (.int v), μ, rfl, k, by rw [ht]; exact hP⟩, hS.F ht⟩) hS.2.2 hd hlk
theorem tt_retv (hX : Cm X l d M Q) (hr : M.2.2.2.1 = none) {pc : Nat} {L : List Value} {μ : Mem} (hd : decode M.2.1 pc = .ok (.return_, 1)) (k : Q none μ) : TT X pc L [] μ := by
  obtain ⟨p, l', e, R, s, m, args, below, meth, c, Z, ce, sl, g, M', n0⟩ := X
  obtain ⟨⟨rfl, rfl, rfl, hx, hb, hml, ho, hts, hK, hSS, hg, hfr, hlo, hce, hsl⟩, hlk, hrt, rfl, rfl, rfl⟩ := hX
  intro H locs ls hP hS hl
  exact W.vret hx hb (hrt.trans hr) (fun t ht hW => ⟨⟨none, μ, rfl, k, by rw [ht]; exact hP⟩, hS.F ht⟩) hS.2.2 hd hlk
theorem tt_retl (hX : Cm X l d M Q) (hr : M.2.2.2.1 = some .long) {pc : Nat} {L : List Value} {μ : Mem} {v : Int64} (hd : decode M.2.1 pc = .ok (.lreturn, 1)) (k : Q (some (.long v)) μ) : TT X pc L [.long v] μ := by
  obtain ⟨p, l', e, R, s, m, args, below, meth, c, Z, ce, sl, g, M', n0⟩ := X
  obtain ⟨⟨rfl, rfl, rfl, hx, hb, hml, ho, hts, hK, hSS, hg, hfr, hlo, hce, hsl⟩, hlk, hrt, rfl, rfl, rfl⟩ := hX
  intro H locs ls hP hS hl
  exact W.lret hx hb (hrt.trans hr) (fun t ht hW => ⟨⟨some (.long v), μ, rfl, k, by rw [ht]; exact hP⟩, hS.F ht⟩) hS.2.2 hd hlk
theorem tt_reta (hX : Cm X l d M Q) {C : String} (hr : M.2.2.2.1 = some (.object C)) {pc : Nat} {L : List Value} {μ : Mem} {v : Value} (hv : v = .null ∨ ∃ a, v = .ref a) (hd : decode M.2.1 pc = .ok (.areturn, 1)) (k : Q (some v) μ) : TT X pc L [v] μ := by
  obtain ⟨p, l', e, R, s, m, args, below, meth, c, Z, ce, sl, g, M', n0⟩ := X
  obtain ⟨⟨rfl, rfl, rfl, hx, hb, hml, ho, hts, hK, hSS, hg, hfr, hlo, hce, hsl⟩, hlk, hrt, rfl, rfl, rfl⟩ := hX
  intro H locs ls hP hS hl
  exact W.aret hx hb (hrt.trans hr) (Or.inl ⟨C, rfl⟩) (by rcases hv with rfl | ⟨a, rfl⟩; exact Or.inl rfl; exact Or.inr ⟨_, rfl⟩) (fun t ht hW => ⟨⟨some v, μ, rfl, k, by rw [ht]; exact hP⟩, hS.F ht⟩) hS.2.2 hd hlk
end EN
