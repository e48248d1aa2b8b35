theorem vpI (cA : ClassId) (N : Nat) : vp_cell cA (N, .inl (fun k => iI ((fun _ => (0 : Int)) k))) = arrV cA N (fun _ => defaultValue .int) := by
  show arrV cA N (fun _ => Value.int (iI 0)) = arrV cA N (fun _ => Value.int 0)
  rw [iI_0]
theorem vpZ (cA : ClassId) (N : Nat) : vp_cell cA (N, .inl (fun k => iI ((fun _ => (0 : Int)) k))) = arrV cA N (fun _ => defaultValue .boolean) := by
  show arrV cA N (fun _ => Value.int (iI 0)) = arrV cA N (fun _ => Value.int 0)
  rw [iI_0]
theorem vpJ (cA : ClassId) (N : Nat) : vp_cell cA (N, .inr (.inl (fun k => lI ((fun _ => (0 : Int)) k)))) = arrV cA N (fun _ => defaultValue .long) := by
  show arrV cA N (fun _ => Value.long (lI 0)) = arrV cA N (fun _ => Value.long 0)
  rw [lI_0]
theorem dvI : Value.int 0 = Value.int (iI 0) := congrArg Value.int iI_0
theorem dvL : Value.long 0 = Value.long (lI 0) := congrArg Value.long lI_0
theorem bfX0 : ∀ j, j < 5 → defaultValue (tyX0 j) = vp_V [.null, .null, .int (iI 0), .int (iI 0), .int (iI 0)] j := by
  intro j hj
  match j, hj with
  | 0, _ => first | rfl | exact dvI | exact dvL
  | 1, _ => first | rfl | exact dvI | exact dvL
  | 2, _ => first | rfl | exact dvI | exact dvL
  | 3, _ => first | rfl | exact dvI | exact dvL
  | 4, _ => first | rfl | exact dvI | exact dvL
  | k + 5, h => exact absurd h (by omega)
theorem bfX1 : ∀ j, j < 3 → defaultValue (tyX1 j) = vp_V [.null, .null, .int (iI 0)] j := by
  intro j hj
  match j, hj with
  | 0, _ => first | rfl | exact dvI | exact dvL
  | 1, _ => first | rfl | exact dvI | exact dvL
  | 2, _ => first | rfl | exact dvI | exact dvL
  | k + 3, h => exact absurd h (by omega)
theorem bfX2 : ∀ j, j < 6 → defaultValue (tyX2 j) = vp_V [.null, .null, .null, .null, .int (iI 0), .int (iI 0)] j := by
  intro j hj
  match j, hj with
  | 0, _ => first | rfl | exact dvI | exact dvL
  | 1, _ => first | rfl | exact dvI | exact dvL
  | 2, _ => first | rfl | exact dvI | exact dvL
  | 3, _ => first | rfl | exact dvI | exact dvL
  | 4, _ => first | rfl | exact dvI | exact dvL
  | 5, _ => first | rfl | exact dvI | exact dvL
  | k + 6, h => exact absurd h (by omega)
theorem bfX3 : ∀ j, j < 3 → defaultValue (tyX3 j) = vp_V [.null, .int (iI 0), .int (iI 0)] j := by
  intro j hj
  match j, hj with
  | 0, _ => first | rfl | exact dvI | exact dvL
  | 1, _ => first | rfl | exact dvI | exact dvL
  | 2, _ => first | rfl | exact dvI | exact dvL
  | k + 3, h => exact absurd h (by omega)
theorem bfX4 : ∀ j, j < 2 → defaultValue (tyX4 j) = vp_V [.null, .int (iI 0)] j := by
  intro j hj
  match j, hj with
  | 0, _ => first | rfl | exact dvI | exact dvL
  | 1, _ => first | rfl | exact dvI | exact dvL
  | k + 2, h => exact absurd h (by omega)
theorem bfX5 : ∀ j, j < 1 → defaultValue (tyX5 j) = vp_V [.int (iI 0)] j := by
  intro j hj
  match j, hj with
  | 0, _ => first | rfl | exact dvI | exact dvL
  | k + 1, h => exact absurd h (by omega)
theorem bfX6 : ∀ j, j < 1 → defaultValue (tyX6 j) = vp_V [.null] j := by
  intro j hj
  match j, hj with
  | 0, _ => first | rfl | exact dvI | exact dvL
  | k + 1, h => exact absurd h (by omega)
theorem bfX7 : ∀ j, j < 10 → defaultValue (tyX7 j) = vp_V [.null, .null, .null, .null, .null, .null, .null, .null, .int (iI 0), .int (iI 0)] j := by
  intro j hj
  match j, hj with
  | 0, _ => first | rfl | exact dvI | exact dvL
  | 1, _ => first | rfl | exact dvI | exact dvL
  | 2, _ => first | rfl | exact dvI | exact dvL
  | 3, _ => first | rfl | exact dvI | exact dvL
  | 4, _ => first | rfl | exact dvI | exact dvL
  | 5, _ => first | rfl | exact dvI | exact dvL
  | 6, _ => first | rfl | exact dvI | exact dvL
  | 7, _ => first | rfl | exact dvI | exact dvL
  | 8, _ => first | rfl | exact dvI | exact dvL
  | 9, _ => first | rfl | exact dvI | exact dvL
  | k + 10, h => exact absurd h (by omega)
theorem bfX8 : ∀ j, j < 30 → defaultValue (tyX8 j) = vp_V [.int (iI 0), .int (iI 0), .int (iI 0), .null, .null, .null, .null, .int (iI 0), .int (iI 0), .int (iI 0), .null, .null, .null, .null, .int (iI 0), .int (iI 0), .int (iI 0), .long (lI 0), .int (iI 0), .null, .null, .null, .int (iI 0), .null, .null, .null, .null, .null, .null, .int (iI 0)] j := by
  intro j hj
  match j, hj with
  | 0, _ => first | rfl | exact dvI | exact dvL
  | 1, _ => first | rfl | exact dvI | exact dvL
  | 2, _ => first | rfl | exact dvI | exact dvL
  | 3, _ => first | rfl | exact dvI | exact dvL
  | 4, _ => first | rfl | exact dvI | exact dvL
  | 5, _ => first | rfl | exact dvI | exact dvL
  | 6, _ => first | rfl | exact dvI | exact dvL
  | 7, _ => first | rfl | exact dvI | exact dvL
  | 8, _ => first | rfl | exact dvI | exact dvL
  | 9, _ => first | rfl | exact dvI | exact dvL
  | 10, _ => first | rfl | exact dvI | exact dvL
  | 11, _ => first | rfl | exact dvI | exact dvL
  | 12, _ => first | rfl | exact dvI | exact dvL
  | 13, _ => first | rfl | exact dvI | exact dvL
  | 14, _ => first | rfl | exact dvI | exact dvL
  | 15, _ => first | rfl | exact dvI | exact dvL
  | 16, _ => first | rfl | exact dvI | exact dvL
  | 17, _ => first | rfl | exact dvI | exact dvL
  | 18, _ => first | rfl | exact dvI | exact dvL
  | 19, _ => first | rfl | exact dvI | exact dvL
  | 20, _ => first | rfl | exact dvI | exact dvL
  | 21, _ => first | rfl | exact dvI | exact dvL
  | 22, _ => first | rfl | exact dvI | exact dvL
  | 23, _ => first | rfl | exact dvI | exact dvL
  | 24, _ => first | rfl | exact dvI | exact dvL
  | 25, _ => first | rfl | exact dvI | exact dvL
  | 26, _ => first | rfl | exact dvI | exact dvL
  | 27, _ => first | rfl | exact dvI | exact dvL
  | 28, _ => first | rfl | exact dvI | exact dvL
  | 29, _ => first | rfl | exact dvI | exact dvL
  | k + 30, h => exact absurd h (by omega)
set_option maxHeartbeats 4000000 in
set_option maxRecDepth 100000 in
theorem ci_X5_init {l : Launch} {D : va_G} {cI cJ cZ cR : ClassId} (h : Nat) : CtI l D vwCl (tysC cI cJ cZ cR) yX5_init wsX5_init ({ frames := 1, cells := 0, slots := 0, locals := 12 } : Room) h [(h, .inr (5, [.int (iI 0)]))] (fun u => [(h, .inr (5, [.int (iI 0)]))]) 0 0 := by
  refine CtI.of (cc := cX5_init) (nL := 1) (own := RX5) (by decide) rfl rfl rfl (Nat.le_of_ble_eq_true rfl) (fun p e s m args below meth c A hin => ?_)
  show Y p l e _ s m args below meth c _ 0 0 cX5_init 1 RX5 wsX5_init D vwCl (tysC cI cJ cZ cR) A none [(h, .inr (5, [.int (iI 0)]))] 0 [(0, .ref h)] []
  refine y_aload_n (j := 0) dX5_init_0 rfl rfl ?_
  refine y_obj dX5_init_1 (List.mem_of_getElem? (i := 1) rfl) (List.mem_of_getElem? (i := 2) rfl) (List.mem_of_getElem? (i := 3) rfl) (Nat.le_of_ble_eq_true rfl) (Nat.le_of_ble_eq_true rfl) ?_
  exact y_vret (fun _ => 0) dX5_init_4 rfl
theorem in_X3_init_X3 : ∀ w ∈ wsX30, w ∈ wsX3_init := fun _ h => List.mem_cons_of_mem _ (List.mem_append_right _ h)
set_option maxHeartbeats 4000000 in
set_option maxRecDepth 100000 in
theorem ci_X3_init {l : Launch} {D : va_G} {cI cJ cZ cR : ClassId} (h : Nat) : CtI l D vwCl (tysC cI cJ cZ cR) yX3_init wsX3_init ({ frames := 1, cells := 1, slots := 60, locals := 12 } : Room) h [(h, .inr (3, [.null, .int (iI 0), .int (iI 0)]))] (fun u => [(h, .inr (3, [.ref (u 0), .int (iI (-1)), .int (iI 0)])), (u 0, xAr cI 60 (fun _ => 0))]) 1 60 := by
  refine CtI.of (cc := cX3_init) (nL := 1) (own := RX3) (by decide) rfl rfl rfl (Nat.le_of_ble_eq_true rfl) (fun p e s m args below meth c A hin => ?_)
  show Y p l e _ s m args below meth c _ 0 0 cX3_init 1 RX3 wsX3_init D vwCl (tysC cI cJ cZ cR) A none [(h, .inr (3, [.null, .int (iI 0), .int (iI 0)]))] 0 [(0, .ref h)] []
  refine y_aload_n (j := 0) dX3_init_0 rfl rfl ?_
  refine y_obj dX3_init_1 (List.mem_of_getElem? (i := 1) rfl) (List.mem_of_getElem? (i := 2) rfl) (List.mem_of_getElem? (i := 3) rfl) (Nat.le_of_ble_eq_true rfl) (Nat.le_of_ble_eq_true rfl) ?_
  refine y_aload_n (j := 0) dX3_init_4 rfl rfl ?_
  refine y_bipush dX3_init_5 (by decide) ?_
  refine y_newa (a0 := (60, .inl (fun k => iI ((fun _ => (0 : Int)) k)))) 0 (fun a1 => [(h, .inr (3, [.null, .int (iI 0), .int (iI 0)])), (a1, xAr cI 60 (fun _ => 0))]) dX3_init_7 (List.mem_of_getElem? (i := 4) rfl) rfl (Or.inl rfl) rfl (fun cA => vpI cA _) (by decide) rfl (Nat.le_of_ble_eq_true rfl) (Nat.le_of_ble_eq_true rfl) (Nat.le_of_ble_eq_true rfl) (fun _ => rfl) (fun a1 => ?_)
  refine y_putF (i := 0) (ci := 3) (k := 0) [(h, .inr (3, [.ref a1, .int (iI 0), .int (iI 0)])), (a1, xAr cI 60 (fun _ => 0))] dX3_init_9 (List.mem_of_getElem? (i := 5) rfl) in_X3_init_X3 rfl (by decide) rfl rfl tyX3_ok nmX3 rfl rfl rfl (Nat.le_of_ble_eq_true rfl) rfl hin rfl ?_
  refine y_aload_n (j := 0) dX3_init_12 rfl rfl ?_
  refine y_iconst dX3_init_13 ?_
  refine y_put (i := 0) (ci := 3) (k := 1) [(h, .inr (3, [.ref a1, .int (iI (-1)), .int (iI 0)])), (a1, xAr cI 60 (fun _ => 0))] dX3_init_14 (List.mem_of_getElem? (i := 6) rfl) in_X3_init_X3 rfl (by decide) rfl rfl tyX3_ok nmX3 rfl rfl rfl (Nat.le_of_ble_eq_true rfl) rfl ?_
  exact y_vret (fun _ => a1) dX3_init_17 rfl
theorem in_X2_init_X2 : ∀ w ∈ wsX20, w ∈ wsX2_init := fun _ h => List.mem_cons_of_mem _ (List.mem_append_right _ h)
set_option maxHeartbeats 4000000 in
set_option maxRecDepth 100000 in
theorem ci_X2_init {l : Launch} {D : va_G} {cI cJ cZ cR : ClassId} (h : Nat) : CtI l D vwCl (tysC cI cJ cZ cR) yX2_init wsX2_init ({ frames := 1, cells := 4, slots := 64, locals := 12 } : Room) h [(h, .inr (2, [.null, .null, .null, .null, .int (iI 0), .int (iI 0)]))] (fun u => [(h, .inr (2, [.ref (u 0), .ref (u 1), .ref (u 2), .ref (u 3), .int (iI 0), .int (iI 0)])), (u 0, xAr cI 16 (fun _ => 0)), (u 1, xAr cI 16 (fun _ => 0)), (u 2, xAr cZ 16 (fun _ => 0)), (u 3, xAr cZ 16 (fun _ => 0))]) 4 64 := by
  refine CtI.of (cc := cX2_init) (nL := 1) (own := RX2) (by decide) rfl rfl rfl (Nat.le_of_ble_eq_true rfl) (fun p e s m args below meth c A hin => ?_)
  show Y p l e _ s m args below meth c _ 0 0 cX2_init 1 RX2 wsX2_init D vwCl (tysC cI cJ cZ cR) A none [(h, .inr (2, [.null, .null, .null, .null, .int (iI 0), .int (iI 0)]))] 0 [(0, .ref h)] []
  refine y_aload_n (j := 0) dX2_init_0 rfl rfl ?_
  refine y_obj dX2_init_1 (List.mem_of_getElem? (i := 1) rfl) (List.mem_of_getElem? (i := 2) rfl) (List.mem_of_getElem? (i := 3) rfl) (Nat.le_of_ble_eq_true rfl) (Nat.le_of_ble_eq_true rfl) ?_
  refine y_aload_n (j := 0) dX2_init_4 rfl rfl ?_
  refine y_bipush dX2_init_5 (by decide) ?_
  refine y_newa (a0 := (16, .inl (fun k => iI ((fun _ => (0 : Int)) k)))) 0 (fun a1 => [(h, .inr (2, [.null, .null, .null, .null, .int (iI 0), .int (iI 0)])), (a1, xAr cI 16 (fun _ => 0))]) dX2_init_7 (List.mem_of_getElem? (i := 4) rfl) rfl (Or.inl rfl) rfl (fun cA => vpI cA _) (by decide) rfl (Nat.le_of_ble_eq_true rfl) (Nat.le_of_ble_eq_true rfl) (Nat.le_of_ble_eq_true rfl) (fun _ => rfl) (fun a1 => ?_)
  refine y_putF (i := 0) (ci := 2) (k := 0) [(h, .inr (2, [.ref a1, .null, .null, .null, .int (iI 0), .int (iI 0)])), (a1, xAr cI 16 (fun _ => 0))] dX2_init_9 (List.mem_of_getElem? (i := 5) rfl) in_X2_init_X2 rfl (by decide) rfl rfl tyX2_ok nmX2 rfl rfl rfl (Nat.le_of_ble_eq_true rfl) rfl hin rfl ?_
  refine y_aload_n (j := 0) dX2_init_12 rfl rfl ?_
  refine y_bipush dX2_init_13 (by decide) ?_
  refine y_newa (a0 := (16, .inl (fun k => iI ((fun _ => (0 : Int)) k)))) 0 (fun a2 => [(h, .inr (2, [.ref a1, .null, .null, .null, .int (iI 0), .int (iI 0)])), (a1, xAr cI 16 (fun _ => 0)), (a2, xAr cI 16 (fun _ => 0))]) dX2_init_15 (List.mem_of_getElem? (i := 4) rfl) rfl (Or.inl rfl) rfl (fun cA => vpI cA _) (by decide) rfl (Nat.le_of_ble_eq_true rfl) (Nat.le_of_ble_eq_true rfl) (Nat.le_of_ble_eq_true rfl) (fun _ => rfl) (fun a2 => ?_)
  refine y_putF (i := 0) (ci := 2) (k := 1) [(h, .inr (2, [.ref a1, .ref a2, .null, .null, .int (iI 0), .int (iI 0)])), (a1, xAr cI 16 (fun _ => 0)), (a2, xAr cI 16 (fun _ => 0))] dX2_init_17 (List.mem_of_getElem? (i := 6) rfl) in_X2_init_X2 rfl (by decide) rfl rfl tyX2_ok nmX2 rfl rfl rfl (Nat.le_of_ble_eq_true rfl) rfl hin rfl ?_
  refine y_aload_n (j := 0) dX2_init_20 rfl rfl ?_
  refine y_bipush dX2_init_21 (by decide) ?_
  refine y_newa (a0 := (16, .inl (fun k => iI ((fun _ => (0 : Int)) k)))) 2 (fun a3 => [(h, .inr (2, [.ref a1, .ref a2, .null, .null, .int (iI 0), .int (iI 0)])), (a1, xAr cI 16 (fun _ => 0)), (a2, xAr cI 16 (fun _ => 0)), (a3, xAr cZ 16 (fun _ => 0))]) dX2_init_23 (List.mem_of_getElem? (i := 7) rfl) rfl (Or.inr (Or.inr rfl)) rfl (fun cA => vpZ cA _) (by decide) rfl (Nat.le_of_ble_eq_true rfl) (Nat.le_of_ble_eq_true rfl) (Nat.le_of_ble_eq_true rfl) (fun _ => rfl) (fun a3 => ?_)
  refine y_putF (i := 0) (ci := 2) (k := 2) [(h, .inr (2, [.ref a1, .ref a2, .ref a3, .null, .int (iI 0), .int (iI 0)])), (a1, xAr cI 16 (fun _ => 0)), (a2, xAr cI 16 (fun _ => 0)), (a3, xAr cZ 16 (fun _ => 0))] dX2_init_25 (List.mem_of_getElem? (i := 8) rfl) in_X2_init_X2 rfl (by decide) rfl rfl tyX2_ok nmX2 rfl rfl rfl (Nat.le_of_ble_eq_true rfl) rfl hin rfl ?_
  refine y_aload_n (j := 0) dX2_init_28 rfl rfl ?_
  refine y_bipush dX2_init_29 (by decide) ?_
  refine y_newa (a0 := (16, .inl (fun k => iI ((fun _ => (0 : Int)) k)))) 2 (fun a4 => [(h, .inr (2, [.ref a1, .ref a2, .ref a3, .null, .int (iI 0), .int (iI 0)])), (a1, xAr cI 16 (fun _ => 0)), (a2, xAr cI 16 (fun _ => 0)), (a3, xAr cZ 16 (fun _ => 0)), (a4, xAr cZ 16 (fun _ => 0))]) dX2_init_31 (List.mem_of_getElem? (i := 7) rfl) rfl (Or.inr (Or.inr rfl)) rfl (fun cA => vpZ cA _) (by decide) rfl (Nat.le_of_ble_eq_true rfl) (Nat.le_of_ble_eq_true rfl) (Nat.le_of_ble_eq_true rfl) (fun _ => rfl) (fun a4 => ?_)
  refine y_putF (i := 0) (ci := 2) (k := 3) [(h, .inr (2, [.ref a1, .ref a2, .ref a3, .ref a4, .int (iI 0), .int (iI 0)])), (a1, xAr cI 16 (fun _ => 0)), (a2, xAr cI 16 (fun _ => 0)), (a3, xAr cZ 16 (fun _ => 0)), (a4, xAr cZ 16 (fun _ => 0))] dX2_init_33 (List.mem_of_getElem? (i := 9) rfl) in_X2_init_X2 rfl (by decide) rfl rfl tyX2_ok nmX2 rfl rfl rfl (Nat.le_of_ble_eq_true rfl) rfl hin rfl ?_
  exact y_vret (fun i => match i with | 0 => a1 | 1 => a2 | 2 => a3 | _ => a4) dX2_init_36 rfl
theorem in_X0_init_X0 : ∀ w ∈ wsX00, w ∈ wsX0_init := fun _ h => List.mem_cons_of_mem _ (List.mem_append_right _ h)
set_option maxHeartbeats 4000000 in
set_option maxRecDepth 100000 in
theorem ci_X0_init {l : Launch} {D : va_G} {cI cJ cZ cR : ClassId} (h : Nat) : CtI l D vwCl (tysC cI cJ cZ cR) yX0_init wsX0_init ({ frames := 1, cells := 2, slots := 36, locals := 12 } : Room) h [(h, .inr (0, [.null, .null, .int (iI 0), .int (iI 0), .int (iI 0)]))] (fun u => [(h, .inr (0, [.ref (u 0), .ref (u 1), .int (iI 0), .int (iI (-9)), .int (iI 0)])), (u 0, xAr cI 18 (fun _ => 0)), (u 1, xAr cI 18 (fun _ => 0))]) 2 36 := by
  refine CtI.of (cc := cX0_init) (nL := 1) (own := RX0) (by decide) rfl rfl rfl (Nat.le_of_ble_eq_true rfl) (fun p e s m args below meth c A hin => ?_)
  show Y p l e _ s m args below meth c _ 0 0 cX0_init 1 RX0 wsX0_init D vwCl (tysC cI cJ cZ cR) A none [(h, .inr (0, [.null, .null, .int (iI 0), .int (iI 0), .int (iI 0)]))] 0 [(0, .ref h)] []
  refine y_aload_n (j := 0) dX0_init_0 rfl rfl ?_
  refine y_obj dX0_init_1 (List.mem_of_getElem? (i := 1) rfl) (List.mem_of_getElem? (i := 2) rfl) (List.mem_of_getElem? (i := 3) rfl) (Nat.le_of_ble_eq_true rfl) (Nat.le_of_ble_eq_true rfl) ?_
  refine y_aload_n (j := 0) dX0_init_4 rfl rfl ?_
  refine y_bipush dX0_init_5 (by decide) ?_
  refine y_newa (a0 := (18, .inl (fun k => iI ((fun _ => (0 : Int)) k)))) 0 (fun a1 => [(h, .inr (0, [.null, .null, .int (iI 0), .int (iI 0), .int (iI 0)])), (a1, xAr cI 18 (fun _ => 0))]) dX0_init_7 (List.mem_of_getElem? (i := 4) rfl) rfl (Or.inl rfl) rfl (fun cA => vpI cA _) (by decide) rfl (Nat.le_of_ble_eq_true rfl) (Nat.le_of_ble_eq_true rfl) (Nat.le_of_ble_eq_true rfl) (fun _ => rfl) (fun a1 => ?_)
  refine y_putF (i := 0) (ci := 0) (k := 0) [(h, .inr (0, [.ref a1, .null, .int (iI 0), .int (iI 0), .int (iI 0)])), (a1, xAr cI 18 (fun _ => 0))] dX0_init_9 (List.mem_of_getElem? (i := 5) rfl) in_X0_init_X0 rfl (by decide) rfl rfl tyX0_ok nmX0 rfl rfl rfl (Nat.le_of_ble_eq_true rfl) rfl hin rfl ?_
  refine y_aload_n (j := 0) dX0_init_12 rfl rfl ?_
  refine y_bipush dX0_init_13 (by decide) ?_
  refine y_newa (a0 := (18, .inl (fun k => iI ((fun _ => (0 : Int)) k)))) 0 (fun a2 => [(h, .inr (0, [.ref a1, .null, .int (iI 0), .int (iI 0), .int (iI 0)])), (a1, xAr cI 18 (fun _ => 0)), (a2, xAr cI 18 (fun _ => 0))]) dX0_init_15 (List.mem_of_getElem? (i := 4) rfl) rfl (Or.inl rfl) rfl (fun cA => vpI cA _) (by decide) rfl (Nat.le_of_ble_eq_true rfl) (Nat.le_of_ble_eq_true rfl) (Nat.le_of_ble_eq_true rfl) (fun _ => rfl) (fun a2 => ?_)
  refine y_putF (i := 0) (ci := 0) (k := 1) [(h, .inr (0, [.ref a1, .ref a2, .int (iI 0), .int (iI 0), .int (iI 0)])), (a1, xAr cI 18 (fun _ => 0)), (a2, xAr cI 18 (fun _ => 0))] dX0_init_17 (List.mem_of_getElem? (i := 6) rfl) in_X0_init_X0 rfl (by decide) rfl rfl tyX0_ok nmX0 rfl rfl rfl (Nat.le_of_ble_eq_true rfl) rfl hin rfl ?_
  refine y_aload_n (j := 0) dX0_init_20 rfl rfl ?_
  refine y_bipush dX0_init_21 (by decide) ?_
  refine y_put (i := 0) (ci := 0) (k := 3) [(h, .inr (0, [.ref a1, .ref a2, .int (iI 0), .int (iI (-9)), .int (iI 0)])), (a1, xAr cI 18 (fun _ => 0)), (a2, xAr cI 18 (fun _ => 0))] dX0_init_23 (List.mem_of_getElem? (i := 7) rfl) in_X0_init_X0 rfl (by decide) rfl rfl tyX0_ok nmX0 rfl rfl rfl (Nat.le_of_ble_eq_true rfl) rfl ?_
  exact y_vret (fun i => match i with | 0 => a1 | _ => a2) dX0_init_26 rfl
theorem in_X1_init_X1 : ∀ w ∈ wsX10, w ∈ wsX1_init := fun _ h => List.mem_cons_of_mem _ (List.mem_append_right _ h)
set_option maxHeartbeats 4000000 in
set_option maxRecDepth 100000 in
theorem ci_X1_init {l : Launch} {D : va_G} {cI cJ cZ cR : ClassId} (h : Nat) : CtI l D vwCl (tysC cI cJ cZ cR) yX1_init wsX1_init ({ frames := 1, cells := 2, slots := 16, locals := 12 } : Room) h [(h, .inr (1, [.null, .null, .int (iI 0)]))] (fun u => [(h, .inr (1, [.ref (u 0), .ref (u 1), .int (iI 0)])), (u 0, xAr cI 8 (fun _ => 0)), (u 1, xAr cI 8 (fun _ => 0))]) 2 16 := by
  refine CtI.of (cc := cX1_init) (nL := 1) (own := RX1) (by decide) rfl rfl rfl (Nat.le_of_ble_eq_true rfl) (fun p e s m args below meth c A hin => ?_)
  show Y p l e _ s m args below meth c _ 0 0 cX1_init 1 RX1 wsX1_init D vwCl (tysC cI cJ cZ cR) A none [(h, .inr (1, [.null, .null, .int (iI 0)]))] 0 [(0, .ref h)] []
  refine y_aload_n (j := 0) dX1_init_0 rfl rfl ?_
  refine y_obj dX1_init_1 (List.mem_of_getElem? (i := 1) rfl) (List.mem_of_getElem? (i := 2) rfl) (List.mem_of_getElem? (i := 3) rfl) (Nat.le_of_ble_eq_true rfl) (Nat.le_of_ble_eq_true rfl) ?_
  refine y_aload_n (j := 0) dX1_init_4 rfl rfl ?_
  refine y_bipush dX1_init_5 (by decide) ?_
  refine y_newa (a0 := (8, .inl (fun k => iI ((fun _ => (0 : Int)) k)))) 0 (fun a1 => [(h, .inr (1, [.null, .null, .int (iI 0)])), (a1, xAr cI 8 (fun _ => 0))]) dX1_init_7 (List.mem_of_getElem? (i := 4) rfl) rfl (Or.inl rfl) rfl (fun cA => vpI cA _) (by decide) rfl (Nat.le_of_ble_eq_true rfl) (Nat.le_of_ble_eq_true rfl) (Nat.le_of_ble_eq_true rfl) (fun _ => rfl) (fun a1 => ?_)
  refine y_putF (i := 0) (ci := 1) (k := 0) [(h, .inr (1, [.ref a1, .null, .int (iI 0)])), (a1, xAr cI 8 (fun _ => 0))] dX1_init_9 (List.mem_of_getElem? (i := 5) rfl) in_X1_init_X1 rfl (by decide) rfl rfl tyX1_ok nmX1 rfl rfl rfl (Nat.le_of_ble_eq_true rfl) rfl hin rfl ?_
  refine y_aload_n (j := 0) dX1_init_12 rfl rfl ?_
  refine y_bipush dX1_init_13 (by decide) ?_
  refine y_newa (a0 := (8, .inl (fun k => iI ((fun _ => (0 : Int)) k)))) 0 (fun a2 => [(h, .inr (1, [.ref a1, .null, .int (iI 0)])), (a1, xAr cI 8 (fun _ => 0)), (a2, xAr cI 8 (fun _ => 0))]) dX1_init_15 (List.mem_of_getElem? (i := 4) rfl) rfl (Or.inl rfl) rfl (fun cA => vpI cA _) (by decide) rfl (Nat.le_of_ble_eq_true rfl) (Nat.le_of_ble_eq_true rfl) (Nat.le_of_ble_eq_true rfl) (fun _ => rfl) (fun a2 => ?_)
  refine y_putF (i := 0) (ci := 1) (k := 1) [(h, .inr (1, [.ref a1, .ref a2, .int (iI 0)])), (a1, xAr cI 8 (fun _ => 0)), (a2, xAr cI 8 (fun _ => 0))] dX1_init_17 (List.mem_of_getElem? (i := 6) rfl) in_X1_init_X1 rfl (by decide) rfl rfl tyX1_ok nmX1 rfl rfl rfl (Nat.le_of_ble_eq_true rfl) rfl hin rfl ?_
  exact y_vret (fun i => match i with | 0 => a1 | _ => a2) dX1_init_20 rfl
theorem in_X4_init_X4 : ∀ w ∈ wsX40, w ∈ wsX4_init := fun _ h => List.mem_cons_of_mem _ (List.mem_append_right _ h)
set_option maxHeartbeats 4000000 in
set_option maxRecDepth 100000 in
theorem ci_X4_init {l : Launch} {D : va_G} {cI cJ cZ cR : ClassId} (h : Nat) : CtI l D vwCl (tysC cI cJ cZ cR) yX4_init wsX4_init ({ frames := 1, cells := 1, slots := 832, locals := 12 } : Room) h [(h, .inr (4, [.null, .int (iI 0)]))] (fun u => [(h, .inr (4, [.ref (u 0), .int (iI 0)])), (u 0, .inl (cJ, 832, .inr (.inl (fun k => lI ((fun _ => 0) k)))))]) 1 832 := by
  refine CtI.of (cc := cX4_init) (nL := 1) (own := RX4) (by decide) rfl rfl rfl (Nat.le_of_ble_eq_true rfl) (fun p e s m args below meth c A hin => ?_)
  show Y p l e _ s m args below meth c _ 0 0 cX4_init 1 RX4 wsX4_init D vwCl (tysC cI cJ cZ cR) A none [(h, .inr (4, [.null, .int (iI 0)]))] 0 [(0, .ref h)] []
  refine y_aload_n (j := 0) dX4_init_0 rfl rfl ?_
  refine y_obj dX4_init_1 (List.mem_of_getElem? (i := 1) rfl) (List.mem_of_getElem? (i := 2) rfl) (List.mem_of_getElem? (i := 3) rfl) (Nat.le_of_ble_eq_true rfl) (Nat.le_of_ble_eq_true rfl) ?_
  refine y_aload_n (j := 0) dX4_init_4 rfl rfl ?_
  refine y_sipush dX4_init_5 (by decide) ?_
  refine y_newa (a0 := (832, .inr (.inl (fun k => lI ((fun _ => (0 : Int)) k))))) 1 (fun a1 => [(h, .inr (4, [.null, .int (iI 0)])), (a1, .inl (cJ, 832, .inr (.inl (fun k => lI ((fun _ => 0) k)))))]) dX4_init_8 (List.mem_of_getElem? (i := 4) rfl) rfl (Or.inr (Or.inl rfl)) rfl (fun cA => vpJ cA _) (by decide) rfl (Nat.le_of_ble_eq_true rfl) (Nat.le_of_ble_eq_true rfl) (Nat.le_of_ble_eq_true rfl) (fun _ => rfl) (fun a1 => ?_)
  refine y_putF (i := 0) (ci := 4) (k := 0) [(h, .inr (4, [.ref a1, .int (iI 0)])), (a1, .inl (cJ, 832, .inr (.inl (fun k => lI ((fun _ => 0) k)))))] dX4_init_10 (List.mem_of_getElem? (i := 5) rfl) in_X4_init_X4 rfl (by decide) rfl rfl tyX4_ok nmX4 rfl rfl rfl (Nat.le_of_ble_eq_true rfl) rfl hin rfl ?_
  exact y_vret (fun _ => a1) dX4_init_13 rfl
theorem in_X6_init_X6 : ∀ w ∈ wsX60, w ∈ wsX6_init := fun _ h => List.mem_cons_of_mem _ (List.mem_append_right _ h)
set_option maxHeartbeats 4000000 in
set_option maxRecDepth 100000 in
theorem ci_X6_init {l : Launch} {D : va_G} {cI cJ cZ cR : ClassId} (h : Nat) : CtI l D vwCl (tysC cI cJ cZ cR) yX6_init wsX6_init ({ frames := 1, cells := 1, slots := 512, locals := 12 } : Room) h [(h, .inr (6, [.null]))] (fun u => [(h, .inr (6, [.ref (u 0)])), (u 0, xAr cI 512 (fun _ => 0))]) 1 512 := by
  refine CtI.of (cc := cX6_init) (nL := 1) (own := RX6) (by decide) rfl rfl rfl (Nat.le_of_ble_eq_true rfl) (fun p e s m args below meth c A hin => ?_)
  show Y p l e _ s m args below meth c _ 0 0 cX6_init 1 RX6 wsX6_init D vwCl (tysC cI cJ cZ cR) A none [(h, .inr (6, [.null]))] 0 [(0, .ref h)] []
  refine y_aload_n (j := 0) dX6_init_0 rfl rfl ?_
  refine y_obj dX6_init_1 (List.mem_of_getElem? (i := 1) rfl) (List.mem_of_getElem? (i := 2) rfl) (List.mem_of_getElem? (i := 3) rfl) (Nat.le_of_ble_eq_true rfl) (Nat.le_of_ble_eq_true rfl) ?_
  refine y_aload_n (j := 0) dX6_init_4 rfl rfl ?_
  refine y_sipush dX6_init_5 (by decide) ?_
  refine y_newa (a0 := (512, .inl (fun k => iI ((fun _ => (0 : Int)) k)))) 0 (fun a1 => [(h, .inr (6, [.null])), (a1, xAr cI 512 (fun _ => 0))]) dX6_init_8 (List.mem_of_getElem? (i := 4) rfl) rfl (Or.inl rfl) rfl (fun cA => vpI cA _) (by decide) rfl (Nat.le_of_ble_eq_true rfl) (Nat.le_of_ble_eq_true rfl) (Nat.le_of_ble_eq_true rfl) (fun _ => rfl) (fun a1 => ?_)
  refine y_putF (i := 0) (ci := 6) (k := 0) [(h, .inr (6, [.ref a1])), (a1, xAr cI 512 (fun _ => 0))] dX6_init_10 (List.mem_of_getElem? (i := 5) rfl) in_X6_init_X6 rfl (by decide) rfl rfl tyX6_ok nmX6 rfl rfl rfl (Nat.le_of_ble_eq_true rfl) rfl hin rfl ?_
  exact y_vret (fun _ => a1) dX6_init_13 rfl
