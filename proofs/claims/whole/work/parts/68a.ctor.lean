/-! THE CONSTRUCTORS of the class’ parts (written by wip/whole/gen/ctors.py) -/
def B_X0 (g : Geo) (h0 : Nat) (ws : va_W) : Prop := ∃ a0 : Nat, ws = [(h0, .inr (0, [.int 3, .ref a0])), (a0, .inl (g.2.2.2 0, 256, .inl (fun _ => 0)))]
set_option maxRecDepth 20000 in
theorem c_X0_init (l : Launch) (g : Geo) : CG l g 1 mX0_init (.inr (0, [.int 0, .null])) (B_X0 g) 1 256 := by
  refine CG.of rfl rfl rfl rfl (by decide) (fun X h0 hX0 => ?_)
  have hX := hX0.gc
  have hI := hX0.init
  refine tg_al hX 0 0 rfl dX0_init_0 List.mem_cons_self ?_
  refine tg_obj hX (by decide) (lk_r3 _ (List.mem_of_getElem? (i := 5) rfl)) (lk_r1 _ (List.mem_of_getElem? (i := 10) rfl)) (lk_r1 _ (List.mem_of_getElem? (i := 11) rfl)) dX0_init_1 ?_
  refine tg_al hX 0 0 rfl dX0_init_4 List.mem_cons_self ?_
  refine tg_ic hX 3 (by decide) dX0_init_5 ?_
  refine tg_put hX (ci := 0) inlX0 tyX0 tyX0_ok nmX0 rfl 0 (by decide) (lk_r3 _ (List.mem_of_getElem? (i := 6) rfl)) rfl rfl rfl rfl (Nat.le_of_ble_eq_true rfl) dX0_init_6 ?_
  show TG X _ _ _ [(h0, .inr (0, [.int 3, .null]))] _ _
  refine tg_al hX 0 0 rfl dX0_init_9 List.mem_cons_self ?_
  refine tg_si hX 256 (by decide) dX0_init_10 ?_
  refine tg_na hX (ty := .int) (t := 0) rfl rfl (lk_r1 _ (List.mem_of_getElem? (i := 17) rfl)) rfl 256 (by decide) (by decide) (by decide) (Nat.le_of_ble_eq_true rfl) (Nat.le_of_ble_eq_true rfl) dX0_init_13 (fun a0 => ?_)
  show TG X _ _ _ [(h0, .inr (0, [.int 3, .null])), (a0, .inl (g.2.2.2 0, 256, .inl (fun _ => 0)))] _ _
  refine tg_putF hX hI (ci := 0) inlX0 tyX0 tyX0_ok nmX0 rfl 1 (by decide) (lk_r3 _ (List.mem_of_getElem? (i := 7) rfl)) rfl rfl rfl rfl (Nat.le_of_ble_eq_true rfl) dX0_init_15 ?_
  show TG X _ _ _ [(h0, .inr (0, [.int 3, .ref a0])), (a0, .inl (g.2.2.2 0, 256, .inl (fun _ => 0)))] _ _
  exact tg_ret hX0 ⟨a0, rfl⟩ rfl rfl dX0_init_18
def B_X1 (g : Geo) (h0 : Nat) (ws : va_W) : Prop := ∃ a0 : Nat, ws = [(h0, .inr (1, [.ref a0, .null, .null])), (a0, .inl (g.2.2.2 0, 256, .inl (fun _ => 0)))]
set_option maxRecDepth 20000 in
theorem c_X1_init (l : Launch) (g : Geo) : CG l g 1 mX1_init (.inr (1, [.null, .null, .null])) (B_X1 g) 1 256 := by
  refine CG.of rfl rfl rfl rfl (by decide) (fun X h0 hX0 => ?_)
  have hX := hX0.gc
  have hI := hX0.init
  refine tg_al hX 0 0 rfl dX1_init_0 List.mem_cons_self ?_
  refine tg_obj hX (by decide) (lk_r4 _ (List.mem_of_getElem? (i := 14) rfl)) (lk_r1 _ (List.mem_of_getElem? (i := 10) rfl)) (lk_r1 _ (List.mem_of_getElem? (i := 11) rfl)) dX1_init_1 ?_
  refine tg_al hX 0 0 rfl dX1_init_4 List.mem_cons_self ?_
  refine tg_si hX 256 (by decide) dX1_init_5 ?_
  refine tg_na hX (ty := .int) (t := 0) rfl rfl (lk_r1 _ (List.mem_of_getElem? (i := 17) rfl)) rfl 256 (by decide) (by decide) (by decide) (Nat.le_of_ble_eq_true rfl) (Nat.le_of_ble_eq_true rfl) dX1_init_8 (fun a0 => ?_)
  show TG X _ _ _ [(h0, .inr (1, [.null, .null, .null])), (a0, .inl (g.2.2.2 0, 256, .inl (fun _ => 0)))] _ _
  refine tg_putF hX hI (ci := 1) inlX1 tyX1 tyX1_ok nmX1 rfl 0 (by decide) (lk_r4 _ (List.mem_of_getElem? (i := 15) rfl)) rfl rfl rfl rfl (Nat.le_of_ble_eq_true rfl) dX1_init_10 ?_
  show TG X _ _ _ [(h0, .inr (1, [.ref a0, .null, .null])), (a0, .inl (g.2.2.2 0, 256, .inl (fun _ => 0)))] _ _
  exact tg_ret hX0 ⟨a0, rfl⟩ rfl rfl dX1_init_13
def B_X2 (g : Geo) (h0 : Nat) (ws : va_W) : Prop := ∃ a0 : Nat, ∃ b1 : Nat, ∃ a0_b1 : Nat, ∃ b2 : Nat, ∃ a0_b2 : Nat, ∃ b3 : Nat, ∃ a0_b3 : Nat, ∃ b4 : Nat, ∃ a0_b4 : Nat, ∃ b5 : Nat, ∃ a0_b5 : Nat, ∃ b6 : Nat, ∃ a0_b6 : Nat, ∃ b7 : Nat, ∃ a0_b7 : Nat, ∃ b8 : Nat, ∃ a0_b8 : Nat, ∃ f9 : Nat → Option Nat, ws = [(h0, .inr (2, [.ref a0, .int 0, .int 0])), (a0, .inl (g.2.2.2 3, 8, .inr (.inr (.inr (.inr f9))))), (b1, .inr (0, [.int 3, .ref a0_b1])), (a0_b1, .inl (g.2.2.2 0, 256, .inl (fun _ => 0))), (b2, .inr (0, [.int 3, .ref a0_b2])), (a0_b2, .inl (g.2.2.2 0, 256, .inl (fun _ => 0))), (b3, .inr (0, [.int 3, .ref a0_b3])), (a0_b3, .inl (g.2.2.2 0, 256, .inl (fun _ => 0))), (b4, .inr (0, [.int 3, .ref a0_b4])), (a0_b4, .inl (g.2.2.2 0, 256, .inl (fun _ => 0))), (b5, .inr (0, [.int 3, .ref a0_b5])), (a0_b5, .inl (g.2.2.2 0, 256, .inl (fun _ => 0))), (b6, .inr (0, [.int 3, .ref a0_b6])), (a0_b6, .inl (g.2.2.2 0, 256, .inl (fun _ => 0))), (b7, .inr (0, [.int 3, .ref a0_b7])), (a0_b7, .inl (g.2.2.2 0, 256, .inl (fun _ => 0))), (b8, .inr (0, [.int 3, .ref a0_b8])), (a0_b8, .inl (g.2.2.2 0, 256, .inl (fun _ => 0)))] ∧ f9 0 = some b1 ∧ f9 1 = some b2 ∧ f9 2 = some b3 ∧ f9 3 = some b4 ∧ f9 4 = some b5 ∧ f9 5 = some b6 ∧ f9 6 = some b7 ∧ f9 7 = some b8
set_option maxRecDepth 20000 in
theorem c_X2_init (l : Launch) (g : Geo) : CG l g 2 mX2_init (.inr (2, [.null, .int 0, .int 0])) (B_X2 g) 17 2072 := by
  refine CG.of rfl rfl rfl rfl (by decide) (fun X h0 hX0 => ?_)
  have hX := hX0.gc
  have hI := hX0.init
  refine tg_al hX 0 0 rfl dX2_init_0 List.mem_cons_self ?_
  refine tg_obj hX (by decide) (lk_r3 _ (List.mem_of_getElem? (i := 11) rfl)) (lk_r1 _ (List.mem_of_getElem? (i := 10) rfl)) (lk_r1 _ (List.mem_of_getElem? (i := 11) rfl)) dX2_init_1 ?_
  refine tg_al hX 0 0 rfl dX2_init_4 List.mem_cons_self ?_
  refine tg_bi hX 8 (by decide) dX2_init_5 ?_
  refine tg_nq hX (lk_r3 _ (List.mem_of_getElem? (i := 12) rfl)) 8 (by decide) (by decide) (by decide) (Nat.le_of_ble_eq_true rfl) (Nat.le_of_ble_eq_true rfl) dX2_init_7 (fun a0 => ?_)
  show TG X _ _ _ [(h0, .inr (2, [.null, .int 0, .int 0])), (a0, .inl (g.2.2.2 3, 8, .inr (.inr (.inr (.inr (fun _ => none))))))] _ _
  refine tg_putF hX hI (ci := 2) inlX2 tyX2 tyX2_ok nmX2 rfl 0 (by decide) (lk_r3 _ (List.mem_of_getElem? (i := 13) rfl)) rfl rfl rfl rfl (Nat.le_of_ble_eq_true rfl) dX2_init_10 ?_
  show TG X _ _ _ [(h0, .inr (2, [.ref a0, .int 0, .int 0])), (a0, .inl (g.2.2.2 3, 8, .inr (.inr (.inr (.inr (fun _ => none))))))] _ _
  refine tg_ic hX 0 (by decide) dX2_init_13 ?_
  refine tg_is hX (L' := [(1, .int 0), (0, .ref h0)]) 1 1 rfl dX2_init_14 (by decide) rfl ?_
  refine tg_il hX 1 1 rfl dX2_init_15 List.mem_cons_self ?_
  refine tg_bi hX 8 (by decide) dX2_init_16 ?_
  refine tg_geF hX 40 dX2_init_18 (by decide) (by decide) ?_
  refine tg_al hX 0 0 rfl dX2_init_21 (List.mem_cons_of_mem _ List.mem_cons_self) ?_
  refine tg_get hX (ci := 2) (v := .ref a0) inlX2 rfl 0 (by decide) (lk_r3 _ (List.mem_of_getElem? (i := 13) rfl)) rfl rfl dX2_init_22 ?_
  refine tg_il hX 1 1 rfl dX2_init_25 List.mem_cons_self ?_
  refine tg_new hX (c_X0_init l g) kmX0_init rfl rfl (by decide) rfl inlX0 tyX0 tyX0_ok (lk_r3 _ (List.mem_of_getElem? (i := 12) rfl)) (lk_r1 _ (List.mem_of_getElem? (i := 13) rfl)) (fun j hj => by match j, hj with | 0, _ => rfl | 1, _ => rfl | (z + 2), h => exact absurd h (by omega)) (lk_r3 _ (List.mem_of_getElem? (i := 14) rfl)) dX2_init_26 dX2_init_29 dX2_init_30 (Nat.le_of_ble_eq_true rfl) (Nat.le_of_ble_eq_true rfl) (Nat.le_of_ble_eq_true rfl) (fun b1 wb1 hwb1 => ?_)
  obtain ⟨a0_b1, rfl⟩ := hwb1
  show TG X _ _ _ [(h0, .inr (2, [.ref a0, .int 0, .int 0])), (a0, .inl (g.2.2.2 3, 8, .inr (.inr (.inr (.inr (fun _ => none)))))), (b1, .inr (0, [.int 3, .ref a0_b1])), (a0_b1, .inl (g.2.2.2 0, 256, .inl (fun _ => 0)))] _ _
  refine tg_ast hX 1 2 0 rfl rfl rfl rfl (by unfold vp_in; decide) dX2_init_33 ?_
  show TG X _ _ _ [(h0, .inr (2, [.ref a0, .int 0, .int 0])), (a0, .inl (g.2.2.2 3, 8, .inr (.inr (.inr (.inr (va_up (fun _ => none) (0 : Int32).toNatClampNeg (some b1))))))), (b1, .inr (0, [.int 3, .ref a0_b1])), (a0_b1, .inl (g.2.2.2 0, 256, .inl (fun _ => 0)))] _ _
  refine tg_inc hX (v := 1) (L' := [(1, .int 1), (0, .ref h0)]) 1 0 dX2_init_34 rfl (by decide) (by decide) rfl ?_
  refine tg_go hX 15 dX2_init_37 (by decide) ?_
  refine tg_il hX 1 1 rfl dX2_init_15 List.mem_cons_self ?_
  refine tg_bi hX 8 (by decide) dX2_init_16 ?_
  refine tg_geF hX 40 dX2_init_18 (by decide) (by decide) ?_
  refine tg_al hX 0 0 rfl dX2_init_21 (List.mem_cons_of_mem _ List.mem_cons_self) ?_
  refine tg_get hX (ci := 2) (v := .ref a0) inlX2 rfl 0 (by decide) (lk_r3 _ (List.mem_of_getElem? (i := 13) rfl)) rfl rfl dX2_init_22 ?_
  refine tg_il hX 1 1 rfl dX2_init_25 List.mem_cons_self ?_
  refine tg_new hX (c_X0_init l g) kmX0_init rfl rfl (by decide) rfl inlX0 tyX0 tyX0_ok (lk_r3 _ (List.mem_of_getElem? (i := 12) rfl)) (lk_r1 _ (List.mem_of_getElem? (i := 13) rfl)) (fun j hj => by match j, hj with | 0, _ => rfl | 1, _ => rfl | (z + 2), h => exact absurd h (by omega)) (lk_r3 _ (List.mem_of_getElem? (i := 14) rfl)) dX2_init_26 dX2_init_29 dX2_init_30 (Nat.le_of_ble_eq_true rfl) (Nat.le_of_ble_eq_true rfl) (Nat.le_of_ble_eq_true rfl) (fun b2 wb2 hwb2 => ?_)
  obtain ⟨a0_b2, rfl⟩ := hwb2
  show TG X _ _ _ [(h0, .inr (2, [.ref a0, .int 0, .int 0])), (a0, .inl (g.2.2.2 3, 8, .inr (.inr (.inr (.inr (va_up (fun _ => none) (0 : Int32).toNatClampNeg (some b1))))))), (b1, .inr (0, [.int 3, .ref a0_b1])), (a0_b1, .inl (g.2.2.2 0, 256, .inl (fun _ => 0))), (b2, .inr (0, [.int 3, .ref a0_b2])), (a0_b2, .inl (g.2.2.2 0, 256, .inl (fun _ => 0)))] _ _
  refine tg_ast hX 1 4 0 rfl rfl rfl rfl (by unfold vp_in; decide) dX2_init_33 ?_
  show TG X _ _ _ [(h0, .inr (2, [.ref a0, .int 0, .int 0])), (a0, .inl (g.2.2.2 3, 8, .inr (.inr (.inr (.inr (va_up (va_up (fun _ => none) (0 : Int32).toNatClampNeg (some b1)) (1 : Int32).toNatClampNeg (some b2))))))), (b1, .inr (0, [.int 3, .ref a0_b1])), (a0_b1, .inl (g.2.2.2 0, 256, .inl (fun _ => 0))), (b2, .inr (0, [.int 3, .ref a0_b2])), (a0_b2, .inl (g.2.2.2 0, 256, .inl (fun _ => 0)))] _ _
  refine tg_inc hX (v := 2) (L' := [(1, .int 2), (0, .ref h0)]) 1 0 dX2_init_34 rfl (by decide) (by decide) rfl ?_
  refine tg_go hX 15 dX2_init_37 (by decide) ?_
  refine tg_il hX 1 1 rfl dX2_init_15 List.mem_cons_self ?_
  refine tg_bi hX 8 (by decide) dX2_init_16 ?_
  refine tg_geF hX 40 dX2_init_18 (by decide) (by decide) ?_
  refine tg_al hX 0 0 rfl dX2_init_21 (List.mem_cons_of_mem _ List.mem_cons_self) ?_
  refine tg_get hX (ci := 2) (v := .ref a0) inlX2 rfl 0 (by decide) (lk_r3 _ (List.mem_of_getElem? (i := 13) rfl)) rfl rfl dX2_init_22 ?_
  refine tg_il hX 1 1 rfl dX2_init_25 List.mem_cons_self ?_
  refine tg_new hX (c_X0_init l g) kmX0_init rfl rfl (by decide) rfl inlX0 tyX0 tyX0_ok (lk_r3 _ (List.mem_of_getElem? (i := 12) rfl)) (lk_r1 _ (List.mem_of_getElem? (i := 13) rfl)) (fun j hj => by match j, hj with | 0, _ => rfl | 1, _ => rfl | (z + 2), h => exact absurd h (by omega)) (lk_r3 _ (List.mem_of_getElem? (i := 14) rfl)) dX2_init_26 dX2_init_29 dX2_init_30 (Nat.le_of_ble_eq_true rfl) (Nat.le_of_ble_eq_true rfl) (Nat.le_of_ble_eq_true rfl) (fun b3 wb3 hwb3 => ?_)
  obtain ⟨a0_b3, rfl⟩ := hwb3
  show TG X _ _ _ [(h0, .inr (2, [.ref a0, .int 0, .int 0])), (a0, .inl (g.2.2.2 3, 8, .inr (.inr (.inr (.inr (va_up (va_up (fun _ => none) (0 : Int32).toNatClampNeg (some b1)) (1 : Int32).toNatClampNeg (some b2))))))), (b1, .inr (0, [.int 3, .ref a0_b1])), (a0_b1, .inl (g.2.2.2 0, 256, .inl (fun _ => 0))), (b2, .inr (0, [.int 3, .ref a0_b2])), (a0_b2, .inl (g.2.2.2 0, 256, .inl (fun _ => 0))), (b3, .inr (0, [.int 3, .ref a0_b3])), (a0_b3, .inl (g.2.2.2 0, 256, .inl (fun _ => 0)))] _ _
  refine tg_ast hX 1 6 0 rfl rfl rfl rfl (by unfold vp_in; decide) dX2_init_33 ?_
  show TG X _ _ _ [(h0, .inr (2, [.ref a0, .int 0, .int 0])), (a0, .inl (g.2.2.2 3, 8, .inr (.inr (.inr (.inr (va_up (va_up (va_up (fun _ => none) (0 : Int32).toNatClampNeg (some b1)) (1 : Int32).toNatClampNeg (some b2)) (2 : Int32).toNatClampNeg (some b3))))))), (b1, .inr (0, [.int 3, .ref a0_b1])), (a0_b1, .inl (g.2.2.2 0, 256, .inl (fun _ => 0))), (b2, .inr (0, [.int 3, .ref a0_b2])), (a0_b2, .inl (g.2.2.2 0, 256, .inl (fun _ => 0))), (b3, .inr (0, [.int 3, .ref a0_b3])), (a0_b3, .inl (g.2.2.2 0, 256, .inl (fun _ => 0)))] _ _
  refine tg_inc hX (v := 3) (L' := [(1, .int 3), (0, .ref h0)]) 1 0 dX2_init_34 rfl (by decide) (by decide) rfl ?_
  refine tg_go hX 15 dX2_init_37 (by decide) ?_
  refine tg_il hX 1 1 rfl dX2_init_15 List.mem_cons_self ?_
  refine tg_bi hX 8 (by decide) dX2_init_16 ?_
  refine tg_geF hX 40 dX2_init_18 (by decide) (by decide) ?_
  refine tg_al hX 0 0 rfl dX2_init_21 (List.mem_cons_of_mem _ List.mem_cons_self) ?_
  refine tg_get hX (ci := 2) (v := .ref a0) inlX2 rfl 0 (by decide) (lk_r3 _ (List.mem_of_getElem? (i := 13) rfl)) rfl rfl dX2_init_22 ?_
  refine tg_il hX 1 1 rfl dX2_init_25 List.mem_cons_self ?_
  refine tg_new hX (c_X0_init l g) kmX0_init rfl rfl (by decide) rfl inlX0 tyX0 tyX0_ok (lk_r3 _ (List.mem_of_getElem? (i := 12) rfl)) (lk_r1 _ (List.mem_of_getElem? (i := 13) rfl)) (fun j hj => by match j, hj with | 0, _ => rfl | 1, _ => rfl | (z + 2), h => exact absurd h (by omega)) (lk_r3 _ (List.mem_of_getElem? (i := 14) rfl)) dX2_init_26 dX2_init_29 dX2_init_30 (Nat.le_of_ble_eq_true rfl) (Nat.le_of_ble_eq_true rfl) (Nat.le_of_ble_eq_true rfl) (fun b4 wb4 hwb4 => ?_)
  obtain ⟨a0_b4, rfl⟩ := hwb4
  show TG X _ _ _ [(h0, .inr (2, [.ref a0, .int 0, .int 0])), (a0, .inl (g.2.2.2 3, 8, .inr (.inr (.inr (.inr (va_up (va_up (va_up (fun _ => none) (0 : Int32).toNatClampNeg (some b1)) (1 : Int32).toNatClampNeg (some b2)) (2 : Int32).toNatClampNeg (some b3))))))), (b1, .inr (0, [.int 3, .ref a0_b1])), (a0_b1, .inl (g.2.2.2 0, 256, .inl (fun _ => 0))), (b2, .inr (0, [.int 3, .ref a0_b2])), (a0_b2, .inl (g.2.2.2 0, 256, .inl (fun _ => 0))), (b3, .inr (0, [.int 3, .ref a0_b3])), (a0_b3, .inl (g.2.2.2 0, 256, .inl (fun _ => 0))), (b4, .inr (0, [.int 3, .ref a0_b4])), (a0_b4, .inl (g.2.2.2 0, 256, .inl (fun _ => 0)))] _ _
  refine tg_ast hX 1 8 0 rfl rfl rfl rfl (by unfold vp_in; decide) dX2_init_33 ?_
  show TG X _ _ _ [(h0, .inr (2, [.ref a0, .int 0, .int 0])), (a0, .inl (g.2.2.2 3, 8, .inr (.inr (.inr (.inr (va_up (va_up (va_up (va_up (fun _ => none) (0 : Int32).toNatClampNeg (some b1)) (1 : Int32).toNatClampNeg (some b2)) (2 : Int32).toNatClampNeg (some b3)) (3 : Int32).toNatClampNeg (some b4))))))), (b1, .inr (0, [.int 3, .ref a0_b1])), (a0_b1, .inl (g.2.2.2 0, 256, .inl (fun _ => 0))), (b2, .inr (0, [.int 3, .ref a0_b2])), (a0_b2, .inl (g.2.2.2 0, 256, .inl (fun _ => 0))), (b3, .inr (0, [.int 3, .ref a0_b3])), (a0_b3, .inl (g.2.2.2 0, 256, .inl (fun _ => 0))), (b4, .inr (0, [.int 3, .ref a0_b4])), (a0_b4, .inl (g.2.2.2 0, 256, .inl (fun _ => 0)))] _ _
  refine tg_inc hX (v := 4) (L' := [(1, .int 4), (0, .ref h0)]) 1 0 dX2_init_34 rfl (by decide) (by decide) rfl ?_
  refine tg_go hX 15 dX2_init_37 (by decide) ?_
  refine tg_il hX 1 1 rfl dX2_init_15 List.mem_cons_self ?_
  refine tg_bi hX 8 (by decide) dX2_init_16 ?_
  refine tg_geF hX 40 dX2_init_18 (by decide) (by decide) ?_
  refine tg_al hX 0 0 rfl dX2_init_21 (List.mem_cons_of_mem _ List.mem_cons_self) ?_
  refine tg_get hX (ci := 2) (v := .ref a0) inlX2 rfl 0 (by decide) (lk_r3 _ (List.mem_of_getElem? (i := 13) rfl)) rfl rfl dX2_init_22 ?_
  refine tg_il hX 1 1 rfl dX2_init_25 List.mem_cons_self ?_
  refine tg_new hX (c_X0_init l g) kmX0_init rfl rfl (by decide) rfl inlX0 tyX0 tyX0_ok (lk_r3 _ (List.mem_of_getElem? (i := 12) rfl)) (lk_r1 _ (List.mem_of_getElem? (i := 13) rfl)) (fun j hj => by match j, hj with | 0, _ => rfl | 1, _ => rfl | (z + 2), h => exact absurd h (by omega)) (lk_r3 _ (List.mem_of_getElem? (i := 14) rfl)) dX2_init_26 dX2_init_29 dX2_init_30 (Nat.le_of_ble_eq_true rfl) (Nat.le_of_ble_eq_true rfl) (Nat.le_of_ble_eq_true rfl) (fun b5 wb5 hwb5 => ?_)
  obtain ⟨a0_b5, rfl⟩ := hwb5
  show TG X _ _ _ [(h0, .inr (2, [.ref a0, .int 0, .int 0])), (a0, .inl (g.2.2.2 3, 8, .inr (.inr (.inr (.inr (va_up (va_up (va_up (va_up (fun _ => none) (0 : Int32).toNatClampNeg (some b1)) (1 : Int32).toNatClampNeg (some b2)) (2 : Int32).toNatClampNeg (some b3)) (3 : Int32).toNatClampNeg (some b4))))))), (b1, .inr (0, [.int 3, .ref a0_b1])), (a0_b1, .inl (g.2.2.2 0, 256, .inl (fun _ => 0))), (b2, .inr (0, [.int 3, .ref a0_b2])), (a0_b2, .inl (g.2.2.2 0, 256, .inl (fun _ => 0))), (b3, .inr (0, [.int 3, .ref a0_b3])), (a0_b3, .inl (g.2.2.2 0, 256, .inl (fun _ => 0))), (b4, .inr (0, [.int 3, .ref a0_b4])), (a0_b4, .inl (g.2.2.2 0, 256, .inl (fun _ => 0))), (b5, .inr (0, [.int 3, .ref a0_b5])), (a0_b5, .inl (g.2.2.2 0, 256, .inl (fun _ => 0)))] _ _
  refine tg_ast hX 1 10 0 rfl rfl rfl rfl (by unfold vp_in; decide) dX2_init_33 ?_
  show TG X _ _ _ [(h0, .inr (2, [.ref a0, .int 0, .int 0])), (a0, .inl (g.2.2.2 3, 8, .inr (.inr (.inr (.inr (va_up (va_up (va_up (va_up (va_up (fun _ => none) (0 : Int32).toNatClampNeg (some b1)) (1 : Int32).toNatClampNeg (some b2)) (2 : Int32).toNatClampNeg (some b3)) (3 : Int32).toNatClampNeg (some b4)) (4 : Int32).toNatClampNeg (some b5))))))), (b1, .inr (0, [.int 3, .ref a0_b1])), (a0_b1, .inl (g.2.2.2 0, 256, .inl (fun _ => 0))), (b2, .inr (0, [.int 3, .ref a0_b2])), (a0_b2, .inl (g.2.2.2 0, 256, .inl (fun _ => 0))), (b3, .inr (0, [.int 3, .ref a0_b3])), (a0_b3, .inl (g.2.2.2 0, 256, .inl (fun _ => 0))), (b4, .inr (0, [.int 3, .ref a0_b4])), (a0_b4, .inl (g.2.2.2 0, 256, .inl (fun _ => 0))), (b5, .inr (0, [.int 3, .ref a0_b5])), (a0_b5, .inl (g.2.2.2 0, 256, .inl (fun _ => 0)))] _ _
  refine tg_inc hX (v := 5) (L' := [(1, .int 5), (0, .ref h0)]) 1 0 dX2_init_34 rfl (by decide) (by decide) rfl ?_
  refine tg_go hX 15 dX2_init_37 (by decide) ?_
  refine tg_il hX 1 1 rfl dX2_init_15 List.mem_cons_self ?_
  refine tg_bi hX 8 (by decide) dX2_init_16 ?_
  refine tg_geF hX 40 dX2_init_18 (by decide) (by decide) ?_
  refine tg_al hX 0 0 rfl dX2_init_21 (List.mem_cons_of_mem _ List.mem_cons_self) ?_
  refine tg_get hX (ci := 2) (v := .ref a0) inlX2 rfl 0 (by decide) (lk_r3 _ (List.mem_of_getElem? (i := 13) rfl)) rfl rfl dX2_init_22 ?_
  refine tg_il hX 1 1 rfl dX2_init_25 List.mem_cons_self ?_
  refine tg_new hX (c_X0_init l g) kmX0_init rfl rfl (by decide) rfl inlX0 tyX0 tyX0_ok (lk_r3 _ (List.mem_of_getElem? (i := 12) rfl)) (lk_r1 _ (List.mem_of_getElem? (i := 13) rfl)) (fun j hj => by match j, hj with | 0, _ => rfl | 1, _ => rfl | (z + 2), h => exact absurd h (by omega)) (lk_r3 _ (List.mem_of_getElem? (i := 14) rfl)) dX2_init_26 dX2_init_29 dX2_init_30 (Nat.le_of_ble_eq_true rfl) (Nat.le_of_ble_eq_true rfl) (Nat.le_of_ble_eq_true rfl) (fun b6 wb6 hwb6 => ?_)
  obtain ⟨a0_b6, rfl⟩ := hwb6
  show TG X _ _ _ [(h0, .inr (2, [.ref a0, .int 0, .int 0])), (a0, .inl (g.2.2.2 3, 8, .inr (.inr (.inr (.inr (va_up (va_up (va_up (va_up (va_up (fun _ => none) (0 : Int32).toNatClampNeg (some b1)) (1 : Int32).toNatClampNeg (some b2)) (2 : Int32).toNatClampNeg (some b3)) (3 : Int32).toNatClampNeg (some b4)) (4 : Int32).toNatClampNeg (some b5))))))), (b1, .inr (0, [.int 3, .ref a0_b1])), (a0_b1, .inl (g.2.2.2 0, 256, .inl (fun _ => 0))), (b2, .inr (0, [.int 3, .ref a0_b2])), (a0_b2, .inl (g.2.2.2 0, 256, .inl (fun _ => 0))), (b3, .inr (0, [.int 3, .ref a0_b3])), (a0_b3, .inl (g.2.2.2 0, 256, .inl (fun _ => 0))), (b4, .inr (0, [.int 3, .ref a0_b4])), (a0_b4, .inl (g.2.2.2 0, 256, .inl (fun _ => 0))), (b5, .inr (0, [.int 3, .ref a0_b5])), (a0_b5, .inl (g.2.2.2 0, 256, .inl (fun _ => 0))), (b6, .inr (0, [.int 3, .ref a0_b6])), (a0_b6, .inl (g.2.2.2 0, 256, .inl (fun _ => 0)))] _ _
  refine tg_ast hX 1 12 0 rfl rfl rfl rfl (by unfold vp_in; decide) dX2_init_33 ?_
  show TG X _ _ _ [(h0, .inr (2, [.ref a0, .int 0, .int 0])), (a0, .inl (g.2.2.2 3, 8, .inr (.inr (.inr (.inr (va_up (va_up (va_up (va_up (va_up (va_up (fun _ => none) (0 : Int32).toNatClampNeg (some b1)) (1 : Int32).toNatClampNeg (some b2)) (2 : Int32).toNatClampNeg (some b3)) (3 : Int32).toNatClampNeg (some b4)) (4 : Int32).toNatClampNeg (some b5)) (5 : Int32).toNatClampNeg (some b6))))))), (b1, .inr (0, [.int 3, .ref a0_b1])), (a0_b1, .inl (g.2.2.2 0, 256, .inl (fun _ => 0))), (b2, .inr (0, [.int 3, .ref a0_b2])), (a0_b2, .inl (g.2.2.2 0, 256, .inl (fun _ => 0))), (b3, .inr (0, [.int 3, .ref a0_b3])), (a0_b3, .inl (g.2.2.2 0, 256, .inl (fun _ => 0))), (b4, .inr (0, [.int 3, .ref a0_b4])), (a0_b4, .inl (g.2.2.2 0, 256, .inl (fun _ => 0))), (b5, .inr (0, [.int 3, .ref a0_b5])), (a0_b5, .inl (g.2.2.2 0, 256, .inl (fun _ => 0))), (b6, .inr (0, [.int 3, .ref a0_b6])), (a0_b6, .inl (g.2.2.2 0, 256, .inl (fun _ => 0)))] _ _
  refine tg_inc hX (v := 6) (L' := [(1, .int 6), (0, .ref h0)]) 1 0 dX2_init_34 rfl (by decide) (by decide) rfl ?_
  refine tg_go hX 15 dX2_init_37 (by decide) ?_
  refine tg_il hX 1 1 rfl dX2_init_15 List.mem_cons_self ?_
  refine tg_bi hX 8 (by decide) dX2_init_16 ?_
  refine tg_geF hX 40 dX2_init_18 (by decide) (by decide) ?_
  refine tg_al hX 0 0 rfl dX2_init_21 (List.mem_cons_of_mem _ List.mem_cons_self) ?_
  refine tg_get hX (ci := 2) (v := .ref a0) inlX2 rfl 0 (by decide) (lk_r3 _ (List.mem_of_getElem? (i := 13) rfl)) rfl rfl dX2_init_22 ?_
  refine tg_il hX 1 1 rfl dX2_init_25 List.mem_cons_self ?_
  refine tg_new hX (c_X0_init l g) kmX0_init rfl rfl (by decide) rfl inlX0 tyX0 tyX0_ok (lk_r3 _ (List.mem_of_getElem? (i := 12) rfl)) (lk_r1 _ (List.mem_of_getElem? (i := 13) rfl)) (fun j hj => by match j, hj with | 0, _ => rfl | 1, _ => rfl | (z + 2), h => exact absurd h (by omega)) (lk_r3 _ (List.mem_of_getElem? (i := 14) rfl)) dX2_init_26 dX2_init_29 dX2_init_30 (Nat.le_of_ble_eq_true rfl) (Nat.le_of_ble_eq_true rfl) (Nat.le_of_ble_eq_true rfl) (fun b7 wb7 hwb7 => ?_)
  obtain ⟨a0_b7, rfl⟩ := hwb7
  show TG X _ _ _ [(h0, .inr (2, [.ref a0, .int 0, .int 0])), (a0, .inl (g.2.2.2 3, 8, .inr (.inr (.inr (.inr (va_up (va_up (va_up (va_up (va_up (va_up (fun _ => none) (0 : Int32).toNatClampNeg (some b1)) (1 : Int32).toNatClampNeg (some b2)) (2 : Int32).toNatClampNeg (some b3)) (3 : Int32).toNatClampNeg (some b4)) (4 : Int32).toNatClampNeg (some b5)) (5 : Int32).toNatClampNeg (some b6))))))), (b1, .inr (0, [.int 3, .ref a0_b1])), (a0_b1, .inl (g.2.2.2 0, 256, .inl (fun _ => 0))), (b2, .inr (0, [.int 3, .ref a0_b2])), (a0_b2, .inl (g.2.2.2 0, 256, .inl (fun _ => 0))), (b3, .inr (0, [.int 3, .ref a0_b3])), (a0_b3, .inl (g.2.2.2 0, 256, .inl (fun _ => 0))), (b4, .inr (0, [.int 3, .ref a0_b4])), (a0_b4, .inl (g.2.2.2 0, 256, .inl (fun _ => 0))), (b5, .inr (0, [.int 3, .ref a0_b5])), (a0_b5, .inl (g.2.2.2 0, 256, .inl (fun _ => 0))), (b6, .inr (0, [.int 3, .ref a0_b6])), (a0_b6, .inl (g.2.2.2 0, 256, .inl (fun _ => 0))), (b7, .inr (0, [.int 3, .ref a0_b7])), (a0_b7, .inl (g.2.2.2 0, 256, .inl (fun _ => 0)))] _ _
  refine tg_ast hX 1 14 0 rfl rfl rfl rfl (by unfold vp_in; decide) dX2_init_33 ?_
  show TG X _ _ _ [(h0, .inr (2, [.ref a0, .int 0, .int 0])), (a0, .inl (g.2.2.2 3, 8, .inr (.inr (.inr (.inr (va_up (va_up (va_up (va_up (va_up (va_up (va_up (fun _ => none) (0 : Int32).toNatClampNeg (some b1)) (1 : Int32).toNatClampNeg (some b2)) (2 : Int32).toNatClampNeg (some b3)) (3 : Int32).toNatClampNeg (some b4)) (4 : Int32).toNatClampNeg (some b5)) (5 : Int32).toNatClampNeg (some b6)) (6 : Int32).toNatClampNeg (some b7))))))), (b1, .inr (0, [.int 3, .ref a0_b1])), (a0_b1, .inl (g.2.2.2 0, 256, .inl (fun _ => 0))), (b2, .inr (0, [.int 3, .ref a0_b2])), (a0_b2, .inl (g.2.2.2 0, 256, .inl (fun _ => 0))), (b3, .inr (0, [.int 3, .ref a0_b3])), (a0_b3, .inl (g.2.2.2 0, 256, .inl (fun _ => 0))), (b4, .inr (0, [.int 3, .ref a0_b4])), (a0_b4, .inl (g.2.2.2 0, 256, .inl (fun _ => 0))), (b5, .inr (0, [.int 3, .ref a0_b5])), (a0_b5, .inl (g.2.2.2 0, 256, .inl (fun _ => 0))), (b6, .inr (0, [.int 3, .ref a0_b6])), (a0_b6, .inl (g.2.2.2 0, 256, .inl (fun _ => 0))), (b7, .inr (0, [.int 3, .ref a0_b7])), (a0_b7, .inl (g.2.2.2 0, 256, .inl (fun _ => 0)))] _ _
  refine tg_inc hX (v := 7) (L' := [(1, .int 7), (0, .ref h0)]) 1 0 dX2_init_34 rfl (by decide) (by decide) rfl ?_
  refine tg_go hX 15 dX2_init_37 (by decide) ?_
  refine tg_il hX 1 1 rfl dX2_init_15 List.mem_cons_self ?_
  refine tg_bi hX 8 (by decide) dX2_init_16 ?_
  refine tg_geF hX 40 dX2_init_18 (by decide) (by decide) ?_
  refine tg_al hX 0 0 rfl dX2_init_21 (List.mem_cons_of_mem _ List.mem_cons_self) ?_
  refine tg_get hX (ci := 2) (v := .ref a0) inlX2 rfl 0 (by decide) (lk_r3 _ (List.mem_of_getElem? (i := 13) rfl)) rfl rfl dX2_init_22 ?_
  refine tg_il hX 1 1 rfl dX2_init_25 List.mem_cons_self ?_
  refine tg_new hX (c_X0_init l g) kmX0_init rfl rfl (by decide) rfl inlX0 tyX0 tyX0_ok (lk_r3 _ (List.mem_of_getElem? (i := 12) rfl)) (lk_r1 _ (List.mem_of_getElem? (i := 13) rfl)) (fun j hj => by match j, hj with | 0, _ => rfl | 1, _ => rfl | (z + 2), h => exact absurd h (by omega)) (lk_r3 _ (List.mem_of_getElem? (i := 14) rfl)) dX2_init_26 dX2_init_29 dX2_init_30 (Nat.le_of_ble_eq_true rfl) (Nat.le_of_ble_eq_true rfl) (Nat.le_of_ble_eq_true rfl) (fun b8 wb8 hwb8 => ?_)
  obtain ⟨a0_b8, rfl⟩ := hwb8
  show TG X _ _ _ [(h0, .inr (2, [.ref a0, .int 0, .int 0])), (a0, .inl (g.2.2.2 3, 8, .inr (.inr (.inr (.inr (va_up (va_up (va_up (va_up (va_up (va_up (va_up (fun _ => none) (0 : Int32).toNatClampNeg (some b1)) (1 : Int32).toNatClampNeg (some b2)) (2 : Int32).toNatClampNeg (some b3)) (3 : Int32).toNatClampNeg (some b4)) (4 : Int32).toNatClampNeg (some b5)) (5 : Int32).toNatClampNeg (some b6)) (6 : Int32).toNatClampNeg (some b7))))))), (b1, .inr (0, [.int 3, .ref a0_b1])), (a0_b1, .inl (g.2.2.2 0, 256, .inl (fun _ => 0))), (b2, .inr (0, [.int 3, .ref a0_b2])), (a0_b2, .inl (g.2.2.2 0, 256, .inl (fun _ => 0))), (b3, .inr (0, [.int 3, .ref a0_b3])), (a0_b3, .inl (g.2.2.2 0, 256, .inl (fun _ => 0))), (b4, .inr (0, [.int 3, .ref a0_b4])), (a0_b4, .inl (g.2.2.2 0, 256, .inl (fun _ => 0))), (b5, .inr (0, [.int 3, .ref a0_b5])), (a0_b5, .inl (g.2.2.2 0, 256, .inl (fun _ => 0))), (b6, .inr (0, [.int 3, .ref a0_b6])), (a0_b6, .inl (g.2.2.2 0, 256, .inl (fun _ => 0))), (b7, .inr (0, [.int 3, .ref a0_b7])), (a0_b7, .inl (g.2.2.2 0, 256, .inl (fun _ => 0))), (b8, .inr (0, [.int 3, .ref a0_b8])), (a0_b8, .inl (g.2.2.2 0, 256, .inl (fun _ => 0)))] _ _
  refine tg_ast hX 1 16 0 rfl rfl rfl rfl (by unfold vp_in; decide) dX2_init_33 ?_
  show TG X _ _ _ [(h0, .inr (2, [.ref a0, .int 0, .int 0])), (a0, .inl (g.2.2.2 3, 8, .inr (.inr (.inr (.inr (va_up (va_up (va_up (va_up (va_up (va_up (va_up (va_up (fun _ => none) (0 : Int32).toNatClampNeg (some b1)) (1 : Int32).toNatClampNeg (some b2)) (2 : Int32).toNatClampNeg (some b3)) (3 : Int32).toNatClampNeg (some b4)) (4 : Int32).toNatClampNeg (some b5)) (5 : Int32).toNatClampNeg (some b6)) (6 : Int32).toNatClampNeg (some b7)) (7 : Int32).toNatClampNeg (some b8))))))), (b1, .inr (0, [.int 3, .ref a0_b1])), (a0_b1, .inl (g.2.2.2 0, 256, .inl (fun _ => 0))), (b2, .inr (0, [.int 3, .ref a0_b2])), (a0_b2, .inl (g.2.2.2 0, 256, .inl (fun _ => 0))), (b3, .inr (0, [.int 3, .ref a0_b3])), (a0_b3, .inl (g.2.2.2 0, 256, .inl (fun _ => 0))), (b4, .inr (0, [.int 3, .ref a0_b4])), (a0_b4, .inl (g.2.2.2 0, 256, .inl (fun _ => 0))), (b5, .inr (0, [.int 3, .ref a0_b5])), (a0_b5, .inl (g.2.2.2 0, 256, .inl (fun _ => 0))), (b6, .inr (0, [.int 3, .ref a0_b6])), (a0_b6, .inl (g.2.2.2 0, 256, .inl (fun _ => 0))), (b7, .inr (0, [.int 3, .ref a0_b7])), (a0_b7, .inl (g.2.2.2 0, 256, .inl (fun _ => 0))), (b8, .inr (0, [.int 3, .ref a0_b8])), (a0_b8, .inl (g.2.2.2 0, 256, .inl (fun _ => 0)))] _ _
  refine tg_inc hX (v := 8) (L' := [(1, .int 8), (0, .ref h0)]) 1 0 dX2_init_34 rfl (by decide) (by decide) rfl ?_
  refine tg_go hX 15 dX2_init_37 (by decide) ?_
  refine tg_il hX 1 1 rfl dX2_init_15 List.mem_cons_self ?_
  refine tg_bi hX 8 (by decide) dX2_init_16 ?_
  refine tg_geT hX 40 dX2_init_18 (by decide) (by decide) ?_
  exact tg_ret hX0 ⟨a0, b1, a0_b1, b2, a0_b2, b3, a0_b3, b4, a0_b4, b5, a0_b5, b6, a0_b6, b7, a0_b7, b8, a0_b8, (va_up (va_up (va_up (va_up (va_up (va_up (va_up (va_up (fun _ => none) (0 : Int32).toNatClampNeg (some b1)) (1 : Int32).toNatClampNeg (some b2)) (2 : Int32).toNatClampNeg (some b3)) (3 : Int32).toNatClampNeg (some b4)) (4 : Int32).toNatClampNeg (some b5)) (5 : Int32).toNatClampNeg (some b6)) (6 : Int32).toNatClampNeg (some b7)) (7 : Int32).toNatClampNeg (some b8)), rfl, rfl, rfl, rfl, rfl, rfl, rfl, rfl, rfl⟩ rfl rfl dX2_init_40
def B_X3 (g : Geo) (h0 : Nat) (ws : va_W) : Prop := ∃ a0 : Nat, ∃ a1 : Nat, ∃ f2 : Nat → Int32, ws = [(h0, .inr (3, [.ref a0, .ref a1])), (a0, .inl (g.2.2.2 0, 160, .inl (fun _ => 0))), (a1, .inl (g.2.2.2 0, 4, .inl f2))] ∧ f2 0 = (-11) ∧ f2 1 = (-11) ∧ f2 2 = (-11) ∧ f2 3 = (-11)
set_option maxRecDepth 20000 in
theorem c_X3_init (l : Launch) (g : Geo) : CG l g 1 mX3_init (.inr (3, [.null, .null])) (B_X3 g) 2 164 := by
  refine CG.of rfl rfl rfl rfl (by decide) (fun X h0 hX0 => ?_)
  have hX := hX0.gc
  have hI := hX0.init
  refine tg_al hX 0 0 rfl dX3_init_0 List.mem_cons_self ?_
  refine tg_obj hX (by decide) (lk_r4 _ (List.mem_of_getElem? (i := 19) rfl)) (lk_r1 _ (List.mem_of_getElem? (i := 10) rfl)) (lk_r1 _ (List.mem_of_getElem? (i := 11) rfl)) dX3_init_1 ?_
  refine tg_al hX 0 0 rfl dX3_init_4 List.mem_cons_self ?_
  refine tg_si hX 160 (by decide) dX3_init_5 ?_
  refine tg_na hX (ty := .int) (t := 0) rfl rfl (lk_r1 _ (List.mem_of_getElem? (i := 17) rfl)) rfl 160 (by decide) (by decide) (by decide) (Nat.le_of_ble_eq_true rfl) (Nat.le_of_ble_eq_true rfl) dX3_init_8 (fun a0 => ?_)
  show TG X _ _ _ [(h0, .inr (3, [.null, .null])), (a0, .inl (g.2.2.2 0, 160, .inl (fun _ => 0)))] _ _
  refine tg_putF hX hI (ci := 3) inlX3 tyX3 tyX3_ok nmX3 rfl 0 (by decide) (lk_r4 _ (List.mem_of_getElem? (i := 20) rfl)) rfl rfl rfl rfl (Nat.le_of_ble_eq_true rfl) dX3_init_10 ?_
  show TG X _ _ _ [(h0, .inr (3, [.ref a0, .null])), (a0, .inl (g.2.2.2 0, 160, .inl (fun _ => 0)))] _ _
  refine tg_al hX 0 0 rfl dX3_init_13 List.mem_cons_self ?_
  refine tg_ic hX 4 (by decide) dX3_init_14 ?_
  refine tg_na hX (ty := .int) (t := 0) rfl rfl (lk_r1 _ (List.mem_of_getElem? (i := 17) rfl)) rfl 4 (by decide) (by decide) (by decide) (Nat.le_of_ble_eq_true rfl) (Nat.le_of_ble_eq_true rfl) dX3_init_15 (fun a1 => ?_)
  show TG X _ _ _ [(h0, .inr (3, [.ref a0, .null])), (a0, .inl (g.2.2.2 0, 160, .inl (fun _ => 0))), (a1, .inl (g.2.2.2 0, 4, .inl (fun _ => 0)))] _ _
  refine tg_putF hX hI (ci := 3) inlX3 tyX3 tyX3_ok nmX3 rfl 1 (by decide) (lk_r4 _ (List.mem_of_getElem? (i := 21) rfl)) rfl rfl rfl rfl (Nat.le_of_ble_eq_true rfl) dX3_init_17 ?_
  show TG X _ _ _ [(h0, .inr (3, [.ref a0, .ref a1])), (a0, .inl (g.2.2.2 0, 160, .inl (fun _ => 0))), (a1, .inl (g.2.2.2 0, 4, .inl (fun _ => 0)))] _ _
  refine tg_ic hX 0 (by decide) dX3_init_20 ?_
  refine tg_is hX (L' := [(1, .int 0), (0, .ref h0)]) 1 1 rfl dX3_init_21 (by decide) rfl ?_
  refine tg_il hX 1 1 rfl dX3_init_22 List.mem_cons_self ?_
  refine tg_ic hX 4 (by decide) dX3_init_23 ?_
  refine tg_geF hX 41 dX3_init_24 (by decide) (by decide) ?_
  refine tg_al hX 0 0 rfl dX3_init_27 (List.mem_cons_of_mem _ List.mem_cons_self) ?_
  refine tg_get hX (ci := 3) (v := .ref a1) inlX3 rfl 1 (by decide) (lk_r4 _ (List.mem_of_getElem? (i := 21) rfl)) rfl rfl dX3_init_28 ?_
  refine tg_il hX 1 1 rfl dX3_init_31 List.mem_cons_self ?_
  refine tg_bi hX (-11) (by decide) dX3_init_32 ?_
  refine tg_iast hX 2 rfl (by unfold vp_in; decide) dX3_init_34 ?_
  show TG X _ _ _ [(h0, .inr (3, [.ref a0, .ref a1])), (a0, .inl (g.2.2.2 0, 160, .inl (fun _ => 0))), (a1, .inl (g.2.2.2 0, 4, .inl (upd (fun _ => 0) (0 : Int32).toNatClampNeg (-11))))] _ _
  refine tg_inc hX (v := 1) (L' := [(1, .int 1), (0, .ref h0)]) 1 0 dX3_init_35 rfl (by decide) (by decide) rfl ?_
  refine tg_go hX 22 dX3_init_38 (by decide) ?_
  refine tg_il hX 1 1 rfl dX3_init_22 List.mem_cons_self ?_
  refine tg_ic hX 4 (by decide) dX3_init_23 ?_
  refine tg_geF hX 41 dX3_init_24 (by decide) (by decide) ?_
  refine tg_al hX 0 0 rfl dX3_init_27 (List.mem_cons_of_mem _ List.mem_cons_self) ?_
  refine tg_get hX (ci := 3) (v := .ref a1) inlX3 rfl 1 (by decide) (lk_r4 _ (List.mem_of_getElem? (i := 21) rfl)) rfl rfl dX3_init_28 ?_
  refine tg_il hX 1 1 rfl dX3_init_31 List.mem_cons_self ?_
  refine tg_bi hX (-11) (by decide) dX3_init_32 ?_
  refine tg_iast hX 2 rfl (by unfold vp_in; decide) dX3_init_34 ?_
  show TG X _ _ _ [(h0, .inr (3, [.ref a0, .ref a1])), (a0, .inl (g.2.2.2 0, 160, .inl (fun _ => 0))), (a1, .inl (g.2.2.2 0, 4, .inl (upd (upd (fun _ => 0) (0 : Int32).toNatClampNeg (-11)) (1 : Int32).toNatClampNeg (-11))))] _ _
  refine tg_inc hX (v := 2) (L' := [(1, .int 2), (0, .ref h0)]) 1 0 dX3_init_35 rfl (by decide) (by decide) rfl ?_
  refine tg_go hX 22 dX3_init_38 (by decide) ?_
  refine tg_il hX 1 1 rfl dX3_init_22 List.mem_cons_self ?_
  refine tg_ic hX 4 (by decide) dX3_init_23 ?_
  refine tg_geF hX 41 dX3_init_24 (by decide) (by decide) ?_
  refine tg_al hX 0 0 rfl dX3_init_27 (List.mem_cons_of_mem _ List.mem_cons_self) ?_
  refine tg_get hX (ci := 3) (v := .ref a1) inlX3 rfl 1 (by decide) (lk_r4 _ (List.mem_of_getElem? (i := 21) rfl)) rfl rfl dX3_init_28 ?_
  refine tg_il hX 1 1 rfl dX3_init_31 List.mem_cons_self ?_
  refine tg_bi hX (-11) (by decide) dX3_init_32 ?_
  refine tg_iast hX 2 rfl (by unfold vp_in; decide) dX3_init_34 ?_
  show TG X _ _ _ [(h0, .inr (3, [.ref a0, .ref a1])), (a0, .inl (g.2.2.2 0, 160, .inl (fun _ => 0))), (a1, .inl (g.2.2.2 0, 4, .inl (upd (upd (upd (fun _ => 0) (0 : Int32).toNatClampNeg (-11)) (1 : Int32).toNatClampNeg (-11)) (2 : Int32).toNatClampNeg (-11))))] _ _
  refine tg_inc hX (v := 3) (L' := [(1, .int 3), (0, .ref h0)]) 1 0 dX3_init_35 rfl (by decide) (by decide) rfl ?_
  refine tg_go hX 22 dX3_init_38 (by decide) ?_
  refine tg_il hX 1 1 rfl dX3_init_22 List.mem_cons_self ?_
  refine tg_ic hX 4 (by decide) dX3_init_23 ?_
  refine tg_geF hX 41 dX3_init_24 (by decide) (by decide) ?_
  refine tg_al hX 0 0 rfl dX3_init_27 (List.mem_cons_of_mem _ List.mem_cons_self) ?_
  refine tg_get hX (ci := 3) (v := .ref a1) inlX3 rfl 1 (by decide) (lk_r4 _ (List.mem_of_getElem? (i := 21) rfl)) rfl rfl dX3_init_28 ?_
  refine tg_il hX 1 1 rfl dX3_init_31 List.mem_cons_self ?_
  refine tg_bi hX (-11) (by decide) dX3_init_32 ?_
  refine tg_iast hX 2 rfl (by unfold vp_in; decide) dX3_init_34 ?_
  show TG X _ _ _ [(h0, .inr (3, [.ref a0, .ref a1])), (a0, .inl (g.2.2.2 0, 160, .inl (fun _ => 0))), (a1, .inl (g.2.2.2 0, 4, .inl (upd (upd (upd (upd (fun _ => 0) (0 : Int32).toNatClampNeg (-11)) (1 : Int32).toNatClampNeg (-11)) (2 : Int32).toNatClampNeg (-11)) (3 : Int32).toNatClampNeg (-11))))] _ _
  refine tg_inc hX (v := 4) (L' := [(1, .int 4), (0, .ref h0)]) 1 0 dX3_init_35 rfl (by decide) (by decide) rfl ?_
  refine tg_go hX 22 dX3_init_38 (by decide) ?_
  refine tg_il hX 1 1 rfl dX3_init_22 List.mem_cons_self ?_
  refine tg_ic hX 4 (by decide) dX3_init_23 ?_
  refine tg_geT hX 41 dX3_init_24 (by decide) (by decide) ?_
  exact tg_ret hX0 ⟨a0, a1, (upd (upd (upd (upd (fun _ => 0) (0 : Int32).toNatClampNeg (-11)) (1 : Int32).toNatClampNeg (-11)) (2 : Int32).toNatClampNeg (-11)) (3 : Int32).toNatClampNeg (-11)), rfl, rfl, rfl, rfl, rfl⟩ rfl rfl dX3_init_41
def B_X4 (g : Geo) (h0 : Nat) (ws : va_W) : Prop := ∃ b0 : Nat, ∃ a0_b0 : Nat, ∃ a1 : Nat, ws = [(h0, .inr (4, [.ref b0, .ref a1, .null, .int 0])), (b0, .inr (0, [.int 3, .ref a0_b0])), (a0_b0, .inl (g.2.2.2 0, 256, .inl (fun _ => 0))), (a1, .inl (g.2.2.2 0, 3, .inl (fun _ => 0)))]
set_option maxRecDepth 20000 in
theorem c_X4_init (l : Launch) (g : Geo) : CG l g 2 mX4_init (.inr (4, [.null, .null, .null, .int 0])) (B_X4 g) 3 261 := by
  refine CG.of rfl rfl rfl rfl (by decide) (fun X h0 hX0 => ?_)
  have hX := hX0.gc
  have hI := hX0.init
  refine tg_al hX 0 0 rfl dX4_init_0 List.mem_cons_self ?_
  refine tg_obj hX (by decide) (lk_r4 _ (List.mem_of_getElem? (i := 7) rfl)) (lk_r1 _ (List.mem_of_getElem? (i := 10) rfl)) (lk_r1 _ (List.mem_of_getElem? (i := 11) rfl)) dX4_init_1 ?_
  refine tg_al hX 0 0 rfl dX4_init_4 List.mem_cons_self ?_
  refine tg_new hX (c_X0_init l g) kmX0_init rfl rfl (by decide) rfl inlX0 tyX0 tyX0_ok (lk_r4 _ (List.mem_of_getElem? (i := 8) rfl)) (lk_r1 _ (List.mem_of_getElem? (i := 13) rfl)) (fun j hj => by match j, hj with | 0, _ => rfl | 1, _ => rfl | (z + 2), h => exact absurd h (by omega)) (lk_r4 _ (List.mem_of_getElem? (i := 11) rfl)) dX4_init_5 dX4_init_8 dX4_init_9 (Nat.le_of_ble_eq_true rfl) (Nat.le_of_ble_eq_true rfl) (Nat.le_of_ble_eq_true rfl) (fun b0 wb0 hwb0 => ?_)
  obtain ⟨a0_b0, rfl⟩ := hwb0
  show TG X _ _ _ [(h0, .inr (4, [.null, .null, .null, .int 0])), (b0, .inr (0, [.int 3, .ref a0_b0])), (a0_b0, .inl (g.2.2.2 0, 256, .inl (fun _ => 0)))] _ _
  refine tg_putF hX hI (ci := 4) inlX4 tyX4 tyX4_ok nmX4 rfl 0 (by decide) (lk_r4 _ (List.mem_of_getElem? (i := 9) rfl)) rfl rfl rfl rfl (Nat.le_of_ble_eq_true rfl) dX4_init_12 ?_
  show TG X _ _ _ [(h0, .inr (4, [.ref b0, .null, .null, .int 0])), (b0, .inr (0, [.int 3, .ref a0_b0])), (a0_b0, .inl (g.2.2.2 0, 256, .inl (fun _ => 0)))] _ _
  refine tg_al hX 0 0 rfl dX4_init_15 List.mem_cons_self ?_
  refine tg_ic hX 3 (by decide) dX4_init_16 ?_
  refine tg_na hX (ty := .int) (t := 0) rfl rfl (lk_r1 _ (List.mem_of_getElem? (i := 17) rfl)) rfl 3 (by decide) (by decide) (by decide) (Nat.le_of_ble_eq_true rfl) (Nat.le_of_ble_eq_true rfl) dX4_init_17 (fun a1 => ?_)
  show TG X _ _ _ [(h0, .inr (4, [.ref b0, .null, .null, .int 0])), (b0, .inr (0, [.int 3, .ref a0_b0])), (a0_b0, .inl (g.2.2.2 0, 256, .inl (fun _ => 0))), (a1, .inl (g.2.2.2 0, 3, .inl (fun _ => 0)))] _ _
  refine tg_putF hX hI (ci := 4) inlX4 tyX4 tyX4_ok nmX4 rfl 1 (by decide) (lk_r4 _ (List.mem_of_getElem? (i := 10) rfl)) rfl rfl rfl rfl (Nat.le_of_ble_eq_true rfl) dX4_init_19 ?_
  show TG X _ _ _ [(h0, .inr (4, [.ref b0, .ref a1, .null, .int 0])), (b0, .inr (0, [.int 3, .ref a0_b0])), (a0_b0, .inl (g.2.2.2 0, 256, .inl (fun _ => 0))), (a1, .inl (g.2.2.2 0, 3, .inl (fun _ => 0)))] _ _
  exact tg_ret hX0 ⟨b0, a0_b0, a1, rfl⟩ rfl rfl dX4_init_22
def B_X5 (g : Geo) (h0 : Nat) (ws : va_W) : Prop := ∃ a0 : Nat, ∃ b1 : Nat, ∃ a0_b1 : Nat, ∃ b2 : Nat, ∃ a0_b2 : Nat, ∃ b3 : Nat, ∃ a0_b3 : Nat, ∃ b4 : Nat, ∃ a0_b4 : Nat, ∃ f5 : Nat → Option Nat, ws = [(h0, .inr (5, [.ref a0, .int 0])), (a0, .inl (g.2.2.2 3, 4, .inr (.inr (.inr (.inr f5))))), (b1, .inr (0, [.int 3, .ref a0_b1])), (a0_b1, .inl (g.2.2.2 0, 256, .inl (fun _ => 0))), (b2, .inr (0, [.int 3, .ref a0_b2])), (a0_b2, .inl (g.2.2.2 0, 256, .inl (fun _ => 0))), (b3, .inr (0, [.int 3, .ref a0_b3])), (a0_b3, .inl (g.2.2.2 0, 256, .inl (fun _ => 0))), (b4, .inr (0, [.int 3, .ref a0_b4])), (a0_b4, .inl (g.2.2.2 0, 256, .inl (fun _ => 0)))] ∧ f5 0 = some b1 ∧ f5 1 = some b2 ∧ f5 2 = some b3 ∧ f5 3 = some b4
set_option maxRecDepth 20000 in
theorem c_X5_init (l : Launch) (g : Geo) : CG l g 2 mX5_init (.inr (5, [.null, .int 0])) (B_X5 g) 9 1036 := by
  refine CG.of rfl rfl rfl rfl (by decide) (fun X h0 hX0 => ?_)
  have hX := hX0.gc
  have hI := hX0.init
  refine tg_al hX 0 0 rfl dX5_init_0 List.mem_cons_self ?_
  refine tg_obj hX (by decide) (lk_r3 _ (List.mem_of_getElem? (i := 18) rfl)) (lk_r1 _ (List.mem_of_getElem? (i := 10) rfl)) (lk_r1 _ (List.mem_of_getElem? (i := 11) rfl)) dX5_init_1 ?_
  refine tg_al hX 0 0 rfl dX5_init_4 List.mem_cons_self ?_
  refine tg_ic hX 4 (by decide) dX5_init_5 ?_
  refine tg_nq hX (lk_r3 _ (List.mem_of_getElem? (i := 19) rfl)) 4 (by decide) (by decide) (by decide) (Nat.le_of_ble_eq_true rfl) (Nat.le_of_ble_eq_true rfl) dX5_init_6 (fun a0 => ?_)
  show TG X _ _ _ [(h0, .inr (5, [.null, .int 0])), (a0, .inl (g.2.2.2 3, 4, .inr (.inr (.inr (.inr (fun _ => none))))))] _ _
  refine tg_putF hX hI (ci := 5) inlX5 tyX5 tyX5_ok nmX5 rfl 0 (by decide) (lk_r3 _ (List.mem_of_getElem? (i := 20) rfl)) rfl rfl rfl rfl (Nat.le_of_ble_eq_true rfl) dX5_init_9 ?_
  show TG X _ _ _ [(h0, .inr (5, [.ref a0, .int 0])), (a0, .inl (g.2.2.2 3, 4, .inr (.inr (.inr (.inr (fun _ => none))))))] _ _
  refine tg_ic hX 0 (by decide) dX5_init_12 ?_
  refine tg_is hX (L' := [(1, .int 0), (0, .ref h0)]) 1 1 rfl dX5_init_13 (by decide) rfl ?_
  refine tg_il hX 1 1 rfl dX5_init_14 List.mem_cons_self ?_
  refine tg_ic hX 4 (by decide) dX5_init_15 ?_
  refine tg_geF hX 38 dX5_init_16 (by decide) (by decide) ?_
  refine tg_al hX 0 0 rfl dX5_init_19 (List.mem_cons_of_mem _ List.mem_cons_self) ?_
  refine tg_get hX (ci := 5) (v := .ref a0) inlX5 rfl 0 (by decide) (lk_r3 _ (List.mem_of_getElem? (i := 20) rfl)) rfl rfl dX5_init_20 ?_
  refine tg_il hX 1 1 rfl dX5_init_23 List.mem_cons_self ?_
  refine tg_new hX (c_X0_init l g) kmX0_init rfl rfl (by decide) rfl inlX0 tyX0 tyX0_ok (lk_r3 _ (List.mem_of_getElem? (i := 19) rfl)) (lk_r1 _ (List.mem_of_getElem? (i := 13) rfl)) (fun j hj => by match j, hj with | 0, _ => rfl | 1, _ => rfl | (z + 2), h => exact absurd h (by omega)) (lk_r3 _ (List.mem_of_getElem? (i := 21) rfl)) dX5_init_24 dX5_init_27 dX5_init_28 (Nat.le_of_ble_eq_true rfl) (Nat.le_of_ble_eq_true rfl) (Nat.le_of_ble_eq_true rfl) (fun b1 wb1 hwb1 => ?_)
  obtain ⟨a0_b1, rfl⟩ := hwb1
  show TG X _ _ _ [(h0, .inr (5, [.ref a0, .int 0])), (a0, .inl (g.2.2.2 3, 4, .inr (.inr (.inr (.inr (fun _ => none)))))), (b1, .inr (0, [.int 3, .ref a0_b1])), (a0_b1, .inl (g.2.2.2 0, 256, .inl (fun _ => 0)))] _ _
  refine tg_ast hX 1 2 0 rfl rfl rfl rfl (by unfold vp_in; decide) dX5_init_31 ?_
  show TG X _ _ _ [(h0, .inr (5, [.ref a0, .int 0])), (a0, .inl (g.2.2.2 3, 4, .inr (.inr (.inr (.inr (va_up (fun _ => none) (0 : Int32).toNatClampNeg (some b1))))))), (b1, .inr (0, [.int 3, .ref a0_b1])), (a0_b1, .inl (g.2.2.2 0, 256, .inl (fun _ => 0)))] _ _
  refine tg_inc hX (v := 1) (L' := [(1, .int 1), (0, .ref h0)]) 1 0 dX5_init_32 rfl (by decide) (by decide) rfl ?_
  refine tg_go hX 14 dX5_init_35 (by decide) ?_
  refine tg_il hX 1 1 rfl dX5_init_14 List.mem_cons_self ?_
  refine tg_ic hX 4 (by decide) dX5_init_15 ?_
  refine tg_geF hX 38 dX5_init_16 (by decide) (by decide) ?_
  refine tg_al hX 0 0 rfl dX5_init_19 (List.mem_cons_of_mem _ List.mem_cons_self) ?_
  refine tg_get hX (ci := 5) (v := .ref a0) inlX5 rfl 0 (by decide) (lk_r3 _ (List.mem_of_getElem? (i := 20) rfl)) rfl rfl dX5_init_20 ?_
  refine tg_il hX 1 1 rfl dX5_init_23 List.mem_cons_self ?_
  refine tg_new hX (c_X0_init l g) kmX0_init rfl rfl (by decide) rfl inlX0 tyX0 tyX0_ok (lk_r3 _ (List.mem_of_getElem? (i := 19) rfl)) (lk_r1 _ (List.mem_of_getElem? (i := 13) rfl)) (fun j hj => by match j, hj with | 0, _ => rfl | 1, _ => rfl | (z + 2), h => exact absurd h (by omega)) (lk_r3 _ (List.mem_of_getElem? (i := 21) rfl)) dX5_init_24 dX5_init_27 dX5_init_28 (Nat.le_of_ble_eq_true rfl) (Nat.le_of_ble_eq_true rfl) (Nat.le_of_ble_eq_true rfl) (fun b2 wb2 hwb2 => ?_)
  obtain ⟨a0_b2, rfl⟩ := hwb2
  show TG X _ _ _ [(h0, .inr (5, [.ref a0, .int 0])), (a0, .inl (g.2.2.2 3, 4, .inr (.inr (.inr (.inr (va_up (fun _ => none) (0 : Int32).toNatClampNeg (some b1))))))), (b1, .inr (0, [.int 3, .ref a0_b1])), (a0_b1, .inl (g.2.2.2 0, 256, .inl (fun _ => 0))), (b2, .inr (0, [.int 3, .ref a0_b2])), (a0_b2, .inl (g.2.2.2 0, 256, .inl (fun _ => 0)))] _ _
  refine tg_ast hX 1 4 0 rfl rfl rfl rfl (by unfold vp_in; decide) dX5_init_31 ?_
  show TG X _ _ _ [(h0, .inr (5, [.ref a0, .int 0])), (a0, .inl (g.2.2.2 3, 4, .inr (.inr (.inr (.inr (va_up (va_up (fun _ => none) (0 : Int32).toNatClampNeg (some b1)) (1 : Int32).toNatClampNeg (some b2))))))), (b1, .inr (0, [.int 3, .ref a0_b1])), (a0_b1, .inl (g.2.2.2 0, 256, .inl (fun _ => 0))), (b2, .inr (0, [.int 3, .ref a0_b2])), (a0_b2, .inl (g.2.2.2 0, 256, .inl (fun _ => 0)))] _ _
  refine tg_inc hX (v := 2) (L' := [(1, .int 2), (0, .ref h0)]) 1 0 dX5_init_32 rfl (by decide) (by decide) rfl ?_
  refine tg_go hX 14 dX5_init_35 (by decide) ?_
  refine tg_il hX 1 1 rfl dX5_init_14 List.mem_cons_self ?_
  refine tg_ic hX 4 (by decide) dX5_init_15 ?_
  refine tg_geF hX 38 dX5_init_16 (by decide) (by decide) ?_
  refine tg_al hX 0 0 rfl dX5_init_19 (List.mem_cons_of_mem _ List.mem_cons_self) ?_
  refine tg_get hX (ci := 5) (v := .ref a0) inlX5 rfl 0 (by decide) (lk_r3 _ (List.mem_of_getElem? (i := 20) rfl)) rfl rfl dX5_init_20 ?_
  refine tg_il hX 1 1 rfl dX5_init_23 List.mem_cons_self ?_
  refine tg_new hX (c_X0_init l g) kmX0_init rfl rfl (by decide) rfl inlX0 tyX0 tyX0_ok (lk_r3 _ (List.mem_of_getElem? (i := 19) rfl)) (lk_r1 _ (List.mem_of_getElem? (i := 13) rfl)) (fun j hj => by match j, hj with | 0, _ => rfl | 1, _ => rfl | (z + 2), h => exact absurd h (by omega)) (lk_r3 _ (List.mem_of_getElem? (i := 21) rfl)) dX5_init_24 dX5_init_27 dX5_init_28 (Nat.le_of_ble_eq_true rfl) (Nat.le_of_ble_eq_true rfl) (Nat.le_of_ble_eq_true rfl) (fun b3 wb3 hwb3 => ?_)
  obtain ⟨a0_b3, rfl⟩ := hwb3
  show TG X _ _ _ [(h0, .inr (5, [.ref a0, .int 0])), (a0, .inl (g.2.2.2 3, 4, .inr (.inr (.inr (.inr (va_up (va_up (fun _ => none) (0 : Int32).toNatClampNeg (some b1)) (1 : Int32).toNatClampNeg (some b2))))))), (b1, .inr (0, [.int 3, .ref a0_b1])), (a0_b1, .inl (g.2.2.2 0, 256, .inl (fun _ => 0))), (b2, .inr (0, [.int 3, .ref a0_b2])), (a0_b2, .inl (g.2.2.2 0, 256, .inl (fun _ => 0))), (b3, .inr (0, [.int 3, .ref a0_b3])), (a0_b3, .inl (g.2.2.2 0, 256, .inl (fun _ => 0)))] _ _
  refine tg_ast hX 1 6 0 rfl rfl rfl rfl (by unfold vp_in; decide) dX5_init_31 ?_
  show TG X _ _ _ [(h0, .inr (5, [.ref a0, .int 0])), (a0, .inl (g.2.2.2 3, 4, .inr (.inr (.inr (.inr (va_up (va_up (va_up (fun _ => none) (0 : Int32).toNatClampNeg (some b1)) (1 : Int32).toNatClampNeg (some b2)) (2 : Int32).toNatClampNeg (some b3))))))), (b1, .inr (0, [.int 3, .ref a0_b1])), (a0_b1, .inl (g.2.2.2 0, 256, .inl (fun _ => 0))), (b2, .inr (0, [.int 3, .ref a0_b2])), (a0_b2, .inl (g.2.2.2 0, 256, .inl (fun _ => 0))), (b3, .inr (0, [.int 3, .ref a0_b3])), (a0_b3, .inl (g.2.2.2 0, 256, .inl (fun _ => 0)))] _ _
  refine tg_inc hX (v := 3) (L' := [(1, .int 3), (0, .ref h0)]) 1 0 dX5_init_32 rfl (by decide) (by decide) rfl ?_
  refine tg_go hX 14 dX5_init_35 (by decide) ?_
  refine tg_il hX 1 1 rfl dX5_init_14 List.mem_cons_self ?_
  refine tg_ic hX 4 (by decide) dX5_init_15 ?_
  refine tg_geF hX 38 dX5_init_16 (by decide) (by decide) ?_
  refine tg_al hX 0 0 rfl dX5_init_19 (List.mem_cons_of_mem _ List.mem_cons_self) ?_
  refine tg_get hX (ci := 5) (v := .ref a0) inlX5 rfl 0 (by decide) (lk_r3 _ (List.mem_of_getElem? (i := 20) rfl)) rfl rfl dX5_init_20 ?_
  refine tg_il hX 1 1 rfl dX5_init_23 List.mem_cons_self ?_
  refine tg_new hX (c_X0_init l g) kmX0_init rfl rfl (by decide) rfl inlX0 tyX0 tyX0_ok (lk_r3 _ (List.mem_of_getElem? (i := 19) rfl)) (lk_r1 _ (List.mem_of_getElem? (i := 13) rfl)) (fun j hj => by match j, hj with | 0, _ => rfl | 1, _ => rfl | (z + 2), h => exact absurd h (by omega)) (lk_r3 _ (List.mem_of_getElem? (i := 21) rfl)) dX5_init_24 dX5_init_27 dX5_init_28 (Nat.le_of_ble_eq_true rfl) (Nat.le_of_ble_eq_true rfl) (Nat.le_of_ble_eq_true rfl) (fun b4 wb4 hwb4 => ?_)
  obtain ⟨a0_b4, rfl⟩ := hwb4
  show TG X _ _ _ [(h0, .inr (5, [.ref a0, .int 0])), (a0, .inl (g.2.2.2 3, 4, .inr (.inr (.inr (.inr (va_up (va_up (va_up (fun _ => none) (0 : Int32).toNatClampNeg (some b1)) (1 : Int32).toNatClampNeg (some b2)) (2 : Int32).toNatClampNeg (some b3))))))), (b1, .inr (0, [.int 3, .ref a0_b1])), (a0_b1, .inl (g.2.2.2 0, 256, .inl (fun _ => 0))), (b2, .inr (0, [.int 3, .ref a0_b2])), (a0_b2, .inl (g.2.2.2 0, 256, .inl (fun _ => 0))), (b3, .inr (0, [.int 3, .ref a0_b3])), (a0_b3, .inl (g.2.2.2 0, 256, .inl (fun _ => 0))), (b4, .inr (0, [.int 3, .ref a0_b4])), (a0_b4, .inl (g.2.2.2 0, 256, .inl (fun _ => 0)))] _ _
  refine tg_ast hX 1 8 0 rfl rfl rfl rfl (by unfold vp_in; decide) dX5_init_31 ?_
  show TG X _ _ _ [(h0, .inr (5, [.ref a0, .int 0])), (a0, .inl (g.2.2.2 3, 4, .inr (.inr (.inr (.inr (va_up (va_up (va_up (va_up (fun _ => none) (0 : Int32).toNatClampNeg (some b1)) (1 : Int32).toNatClampNeg (some b2)) (2 : Int32).toNatClampNeg (some b3)) (3 : Int32).toNatClampNeg (some b4))))))), (b1, .inr (0, [.int 3, .ref a0_b1])), (a0_b1, .inl (g.2.2.2 0, 256, .inl (fun _ => 0))), (b2, .inr (0, [.int 3, .ref a0_b2])), (a0_b2, .inl (g.2.2.2 0, 256, .inl (fun _ => 0))), (b3, .inr (0, [.int 3, .ref a0_b3])), (a0_b3, .inl (g.2.2.2 0, 256, .inl (fun _ => 0))), (b4, .inr (0, [.int 3, .ref a0_b4])), (a0_b4, .inl (g.2.2.2 0, 256, .inl (fun _ => 0)))] _ _
  refine tg_inc hX (v := 4) (L' := [(1, .int 4), (0, .ref h0)]) 1 0 dX5_init_32 rfl (by decide) (by decide) rfl ?_
  refine tg_go hX 14 dX5_init_35 (by decide) ?_
  refine tg_il hX 1 1 rfl dX5_init_14 List.mem_cons_self ?_
  refine tg_ic hX 4 (by decide) dX5_init_15 ?_
  refine tg_geT hX 38 dX5_init_16 (by decide) (by decide) ?_
  exact tg_ret hX0 ⟨a0, b1, a0_b1, b2, a0_b2, b3, a0_b3, b4, a0_b4, (va_up (va_up (va_up (va_up (fun _ => none) (0 : Int32).toNatClampNeg (some b1)) (1 : Int32).toNatClampNeg (some b2)) (2 : Int32).toNatClampNeg (some b3)) (3 : Int32).toNatClampNeg (some b4)), rfl, rfl, rfl, rfl, rfl⟩ rfl rfl dX5_init_38
def B_X6 (g : Geo) (h0 : Nat) (ws : va_W) : Prop := ∃ a0 : Nat, ∃ a1 : Nat, ∃ a2 : Nat, ∃ a3 : Nat, ws = [(h0, .inr (6, [.ref a0, .int 0, .ref a1, .ref a2, .ref a3, .int 0])), (a0, .inl (g.2.2.2 2, 120, .inl (fun _ => 0))), (a1, .inl (g.2.2.2 0, 12, .inl (fun _ => 0))), (a2, .inl (g.2.2.2 0, 12, .inl (fun _ => 0))), (a3, .inl (g.2.2.2 0, 12, .inl (fun _ => 0)))]
set_option maxRecDepth 20000 in
theorem c_X6_init (l : Launch) (g : Geo) : CG l g 1 mX6_init (.inr (6, [.null, .int 0, .null, .null, .null, .int 0])) (B_X6 g) 4 156 := by
  refine CG.of rfl rfl rfl rfl (by decide) (fun X h0 hX0 => ?_)
  have hX := hX0.gc
  have hI := hX0.init
  refine tg_al hX 0 0 rfl dX6_init_0 List.mem_cons_self ?_
  refine tg_obj hX (by decide) (lk_r5 _ (List.mem_of_getElem? (i := 0) rfl)) (lk_r1 _ (List.mem_of_getElem? (i := 10) rfl)) (lk_r1 _ (List.mem_of_getElem? (i := 11) rfl)) dX6_init_1 ?_
  refine tg_al hX 0 0 rfl dX6_init_4 List.mem_cons_self ?_
  refine tg_bi hX 120 (by decide) dX6_init_5 ?_
  refine tg_na hX (ty := .byte) (t := 2) rfl rfl (lk_r3 _ (List.mem_of_getElem? (i := 0) rfl)) rfl 120 (by decide) (by decide) (by decide) (Nat.le_of_ble_eq_true rfl) (Nat.le_of_ble_eq_true rfl) dX6_init_7 (fun a0 => ?_)
  show TG X _ _ _ [(h0, .inr (6, [.null, .int 0, .null, .null, .null, .int 0])), (a0, .inl (g.2.2.2 2, 120, .inl (fun _ => 0)))] _ _
  refine tg_putF hX hI (ci := 6) inlX6 tyX6 tyX6_ok nmX6 rfl 0 (by decide) (lk_r5 _ (List.mem_of_getElem? (i := 1) rfl)) rfl rfl rfl rfl (Nat.le_of_ble_eq_true rfl) dX6_init_9 ?_
  show TG X _ _ _ [(h0, .inr (6, [.ref a0, .int 0, .null, .null, .null, .int 0])), (a0, .inl (g.2.2.2 2, 120, .inl (fun _ => 0)))] _ _
  refine tg_al hX 0 0 rfl dX6_init_12 List.mem_cons_self ?_
  refine tg_bi hX 12 (by decide) dX6_init_13 ?_
  refine tg_na hX (ty := .int) (t := 0) rfl rfl (lk_r1 _ (List.mem_of_getElem? (i := 17) rfl)) rfl 12 (by decide) (by decide) (by decide) (Nat.le_of_ble_eq_true rfl) (Nat.le_of_ble_eq_true rfl) dX6_init_15 (fun a1 => ?_)
  show TG X _ _ _ [(h0, .inr (6, [.ref a0, .int 0, .null, .null, .null, .int 0])), (a0, .inl (g.2.2.2 2, 120, .inl (fun _ => 0))), (a1, .inl (g.2.2.2 0, 12, .inl (fun _ => 0)))] _ _
  refine tg_putF hX hI (ci := 6) inlX6 tyX6 tyX6_ok nmX6 rfl 2 (by decide) (lk_r5 _ (List.mem_of_getElem? (i := 2) rfl)) rfl rfl rfl rfl (Nat.le_of_ble_eq_true rfl) dX6_init_17 ?_
  show TG X _ _ _ [(h0, .inr (6, [.ref a0, .int 0, .ref a1, .null, .null, .int 0])), (a0, .inl (g.2.2.2 2, 120, .inl (fun _ => 0))), (a1, .inl (g.2.2.2 0, 12, .inl (fun _ => 0)))] _ _
  refine tg_al hX 0 0 rfl dX6_init_20 List.mem_cons_self ?_
  refine tg_bi hX 12 (by decide) dX6_init_21 ?_
  refine tg_na hX (ty := .int) (t := 0) rfl rfl (lk_r1 _ (List.mem_of_getElem? (i := 17) rfl)) rfl 12 (by decide) (by decide) (by decide) (Nat.le_of_ble_eq_true rfl) (Nat.le_of_ble_eq_true rfl) dX6_init_23 (fun a2 => ?_)
  show TG X _ _ _ [(h0, .inr (6, [.ref a0, .int 0, .ref a1, .null, .null, .int 0])), (a0, .inl (g.2.2.2 2, 120, .inl (fun _ => 0))), (a1, .inl (g.2.2.2 0, 12, .inl (fun _ => 0))), (a2, .inl (g.2.2.2 0, 12, .inl (fun _ => 0)))] _ _
  refine tg_putF hX hI (ci := 6) inlX6 tyX6 tyX6_ok nmX6 rfl 3 (by decide) (lk_r5 _ (List.mem_of_getElem? (i := 3) rfl)) rfl rfl rfl rfl (Nat.le_of_ble_eq_true rfl) dX6_init_25 ?_
  show TG X _ _ _ [(h0, .inr (6, [.ref a0, .int 0, .ref a1, .ref a2, .null, .int 0])), (a0, .inl (g.2.2.2 2, 120, .inl (fun _ => 0))), (a1, .inl (g.2.2.2 0, 12, .inl (fun _ => 0))), (a2, .inl (g.2.2.2 0, 12, .inl (fun _ => 0)))] _ _
  refine tg_al hX 0 0 rfl dX6_init_28 List.mem_cons_self ?_
  refine tg_bi hX 12 (by decide) dX6_init_29 ?_
  refine tg_na hX (ty := .int) (t := 0) rfl rfl (lk_r1 _ (List.mem_of_getElem? (i := 17) rfl)) rfl 12 (by decide) (by decide) (by decide) (Nat.le_of_ble_eq_true rfl) (Nat.le_of_ble_eq_true rfl) dX6_init_31 (fun a3 => ?_)
  show TG X _ _ _ [(h0, .inr (6, [.ref a0, .int 0, .ref a1, .ref a2, .null, .int 0])), (a0, .inl (g.2.2.2 2, 120, .inl (fun _ => 0))), (a1, .inl (g.2.2.2 0, 12, .inl (fun _ => 0))), (a2, .inl (g.2.2.2 0, 12, .inl (fun _ => 0))), (a3, .inl (g.2.2.2 0, 12, .inl (fun _ => 0)))] _ _
  refine tg_putF hX hI (ci := 6) inlX6 tyX6 tyX6_ok nmX6 rfl 4 (by decide) (lk_r5 _ (List.mem_of_getElem? (i := 4) rfl)) rfl rfl rfl rfl (Nat.le_of_ble_eq_true rfl) dX6_init_33 ?_
  show TG X _ _ _ [(h0, .inr (6, [.ref a0, .int 0, .ref a1, .ref a2, .ref a3, .int 0])), (a0, .inl (g.2.2.2 2, 120, .inl (fun _ => 0))), (a1, .inl (g.2.2.2 0, 12, .inl (fun _ => 0))), (a2, .inl (g.2.2.2 0, 12, .inl (fun _ => 0))), (a3, .inl (g.2.2.2 0, 12, .inl (fun _ => 0)))] _ _
  exact tg_ret hX0 ⟨a0, a1, a2, a3, rfl⟩ rfl rfl dX6_init_36
def B_X7 (g : Geo) (h0 : Nat) (ws : va_W) : Prop := ∃ a0 : Nat, ∃ a1 : Nat, ∃ a2 : Nat, ∃ a3 : Nat, ws = [(h0, .inr (7, [.ref a0, .ref a1, .ref a2, .ref a3, .int 0, .int 0])), (a0, .inl (g.2.2.2 0, 70, .inl (fun _ => 0))), (a1, .inl (g.2.2.2 0, 70, .inl (fun _ => 0))), (a2, .inl (g.2.2.2 0, 70, .inl (fun _ => 0))), (a3, .inl (g.2.2.2 0, 70, .inl (fun _ => 0)))]
set_option maxRecDepth 20000 in
theorem c_X7_init (l : Launch) (g : Geo) : CG l g 1 mX7_init (.inr (7, [.null, .null, .null, .null, .int 0, .int 0])) (B_X7 g) 4 280 := by
  refine CG.of rfl rfl rfl rfl (by decide) (fun X h0 hX0 => ?_)
  have hX := hX0.gc
  have hI := hX0.init
  refine tg_al hX 0 0 rfl dX7_init_0 List.mem_cons_self ?_
  refine tg_obj hX (by decide) (lk_r4 _ (List.mem_of_getElem? (i := 0) rfl)) (lk_r1 _ (List.mem_of_getElem? (i := 10) rfl)) (lk_r1 _ (List.mem_of_getElem? (i := 11) rfl)) dX7_init_1 ?_
  refine tg_al hX 0 0 rfl dX7_init_4 List.mem_cons_self ?_
  refine tg_bi hX 70 (by decide) dX7_init_5 ?_
  refine tg_na hX (ty := .int) (t := 0) rfl rfl (lk_r1 _ (List.mem_of_getElem? (i := 17) rfl)) rfl 70 (by decide) (by decide) (by decide) (Nat.le_of_ble_eq_true rfl) (Nat.le_of_ble_eq_true rfl) dX7_init_7 (fun a0 => ?_)
  show TG X _ _ _ [(h0, .inr (7, [.null, .null, .null, .null, .int 0, .int 0])), (a0, .inl (g.2.2.2 0, 70, .inl (fun _ => 0)))] _ _
  refine tg_putF hX hI (ci := 7) inlX7 tyX7 tyX7_ok nmX7 rfl 0 (by decide) (lk_r4 _ (List.mem_of_getElem? (i := 1) rfl)) rfl rfl rfl rfl (Nat.le_of_ble_eq_true rfl) dX7_init_9 ?_
  show TG X _ _ _ [(h0, .inr (7, [.ref a0, .null, .null, .null, .int 0, .int 0])), (a0, .inl (g.2.2.2 0, 70, .inl (fun _ => 0)))] _ _
  refine tg_al hX 0 0 rfl dX7_init_12 List.mem_cons_self ?_
  refine tg_bi hX 70 (by decide) dX7_init_13 ?_
  refine tg_na hX (ty := .int) (t := 0) rfl rfl (lk_r1 _ (List.mem_of_getElem? (i := 17) rfl)) rfl 70 (by decide) (by decide) (by decide) (Nat.le_of_ble_eq_true rfl) (Nat.le_of_ble_eq_true rfl) dX7_init_15 (fun a1 => ?_)
  show TG X _ _ _ [(h0, .inr (7, [.ref a0, .null, .null, .null, .int 0, .int 0])), (a0, .inl (g.2.2.2 0, 70, .inl (fun _ => 0))), (a1, .inl (g.2.2.2 0, 70, .inl (fun _ => 0)))] _ _
  refine tg_putF hX hI (ci := 7) inlX7 tyX7 tyX7_ok nmX7 rfl 1 (by decide) (lk_r4 _ (List.mem_of_getElem? (i := 2) rfl)) rfl rfl rfl rfl (Nat.le_of_ble_eq_true rfl) dX7_init_17 ?_
  show TG X _ _ _ [(h0, .inr (7, [.ref a0, .ref a1, .null, .null, .int 0, .int 0])), (a0, .inl (g.2.2.2 0, 70, .inl (fun _ => 0))), (a1, .inl (g.2.2.2 0, 70, .inl (fun _ => 0)))] _ _
  refine tg_al hX 0 0 rfl dX7_init_20 List.mem_cons_self ?_
  refine tg_bi hX 70 (by decide) dX7_init_21 ?_
  refine tg_na hX (ty := .int) (t := 0) rfl rfl (lk_r1 _ (List.mem_of_getElem? (i := 17) rfl)) rfl 70 (by decide) (by decide) (by decide) (Nat.le_of_ble_eq_true rfl) (Nat.le_of_ble_eq_true rfl) dX7_init_23 (fun a2 => ?_)
  show TG X _ _ _ [(h0, .inr (7, [.ref a0, .ref a1, .null, .null, .int 0, .int 0])), (a0, .inl (g.2.2.2 0, 70, .inl (fun _ => 0))), (a1, .inl (g.2.2.2 0, 70, .inl (fun _ => 0))), (a2, .inl (g.2.2.2 0, 70, .inl (fun _ => 0)))] _ _
  refine tg_putF hX hI (ci := 7) inlX7 tyX7 tyX7_ok nmX7 rfl 2 (by decide) (lk_r4 _ (List.mem_of_getElem? (i := 3) rfl)) rfl rfl rfl rfl (Nat.le_of_ble_eq_true rfl) dX7_init_25 ?_
  show TG X _ _ _ [(h0, .inr (7, [.ref a0, .ref a1, .ref a2, .null, .int 0, .int 0])), (a0, .inl (g.2.2.2 0, 70, .inl (fun _ => 0))), (a1, .inl (g.2.2.2 0, 70, .inl (fun _ => 0))), (a2, .inl (g.2.2.2 0, 70, .inl (fun _ => 0)))] _ _
  refine tg_al hX 0 0 rfl dX7_init_28 List.mem_cons_self ?_
  refine tg_bi hX 70 (by decide) dX7_init_29 ?_
  refine tg_na hX (ty := .int) (t := 0) rfl rfl (lk_r1 _ (List.mem_of_getElem? (i := 17) rfl)) rfl 70 (by decide) (by decide) (by decide) (Nat.le_of_ble_eq_true rfl) (Nat.le_of_ble_eq_true rfl) dX7_init_31 (fun a3 => ?_)
  show TG X _ _ _ [(h0, .inr (7, [.ref a0, .ref a1, .ref a2, .null, .int 0, .int 0])), (a0, .inl (g.2.2.2 0, 70, .inl (fun _ => 0))), (a1, .inl (g.2.2.2 0, 70, .inl (fun _ => 0))), (a2, .inl (g.2.2.2 0, 70, .inl (fun _ => 0))), (a3, .inl (g.2.2.2 0, 70, .inl (fun _ => 0)))] _ _
  refine tg_putF hX hI (ci := 7) inlX7 tyX7 tyX7_ok nmX7 rfl 3 (by decide) (lk_r4 _ (List.mem_of_getElem? (i := 4) rfl)) rfl rfl rfl rfl (Nat.le_of_ble_eq_true rfl) dX7_init_33 ?_
  show TG X _ _ _ [(h0, .inr (7, [.ref a0, .ref a1, .ref a2, .ref a3, .int 0, .int 0])), (a0, .inl (g.2.2.2 0, 70, .inl (fun _ => 0))), (a1, .inl (g.2.2.2 0, 70, .inl (fun _ => 0))), (a2, .inl (g.2.2.2 0, 70, .inl (fun _ => 0))), (a3, .inl (g.2.2.2 0, 70, .inl (fun _ => 0)))] _ _
  exact tg_ret hX0 ⟨a0, a1, a2, a3, rfl⟩ rfl rfl dX7_init_36
