theorem ml_cX : Cond.classLink RL 7 RX7 ∈ wsL_law := List.mem_of_getElem? (i := 0) (by decide +kernel)
theorem ml_cM : Cond.classLink RL 10 RX8 ∈ wsL_law := List.mem_of_getElem? (i := 3) (by decide +kernel)
theorem ml_in0 : Cond.instantiable RX0 5 ∈ wsL_law := List.mem_of_getElem? (i := 24) (by decide +kernel)
theorem ml_in1 : Cond.instantiable RX1 3 ∈ wsL_law := List.mem_of_getElem? (i := 28) (by decide +kernel)
theorem ml_in2 : Cond.instantiable RX2 6 ∈ wsL_law := List.mem_of_getElem? (i := 15) (by decide +kernel)
theorem ml_in3 : Cond.instantiable RX3 3 ∈ wsL_law := List.mem_of_getElem? (i := 39) (by decide +kernel)
theorem ml_in4 : Cond.instantiable RX4 2 ∈ wsL_law := List.mem_of_getElem? (i := 32) (by decide +kernel)
theorem ml_in5 : Cond.instantiable RX5 1 ∈ wsL_law := List.mem_of_getElem? (i := 20) (by decide +kernel)
theorem ml_in6 : Cond.instantiable RX6 1 ∈ wsL_law := List.mem_of_getElem? (i := 36) (by decide +kernel)
theorem ml_in7 : Cond.instantiable RX7 10 ∈ wsL_law := List.mem_of_getElem? (i := 1) (by decide +kernel)
theorem ml_in8 : Cond.instantiable RX8 30 ∈ wsL_law := List.mem_of_getElem? (i := 4) (by decide +kernel)
theorem ml_i7 : Cond.initialized RX7 ∈ wsL_law := List.mem_of_getElem? (i := 2) (by decide +kernel)
theorem ml_i8 : Cond.initialized RX8 ∈ wsL_law := List.mem_of_getElem? (i := 5) (by decide +kernel)
theorem ml_mX : Cond.methodLink RL 9 yX7_init ∈ wsL_law := List.mem_of_getElem? (i := 6) (by decide +kernel)
theorem ml_mM : Cond.methodLink RL 12 yX8_init ∈ wsL_law := List.mem_of_getElem? (i := 78) (by decide +kernel)
theorem ml_sX : Cond.instanceMethod yX7_init ∈ wsL_law := List.mem_of_getElem? (i := 7) (by decide +kernel)
theorem ml_sM : Cond.instanceMethod yX8_init ∈ wsL_law := List.mem_of_getElem? (i := 79) (by decide +kernel)
theorem ml_aI : Cond.arrayClass .int ∈ wsL_law := List.mem_of_getElem? (i := 44) (by decide +kernel)
theorem ml_aJ : Cond.arrayClass .long ∈ wsL_law := List.mem_of_getElem? (i := 67) (by decide +kernel)
theorem ml_aZ : Cond.arrayClass .boolean ∈ wsL_law := List.mem_of_getElem? (i := 47) (by decide +kernel)
theorem cd_X7_init : yX7_init.cls ≠ "java/lang/invoke/MethodHandle" ∧ yX7_init.cls ≠ "java/lang/invoke/VarHandle" ∧ (parseMethodDescriptor yX7_init.desc).map (fun d => d.parameters.length) = some 0 := ⟨by decide +kernel, by decide +kernel, by decide +kernel⟩
theorem cd_X8_init : yX8_init.cls ≠ "java/lang/invoke/MethodHandle" ∧ yX8_init.cls ≠ "java/lang/invoke/VarHandle" ∧ (parseMethodDescriptor yX8_init.desc).map (fun d => d.parameters.length) = some 0 := ⟨by decide +kernel, by decide +kernel, by decide +kernel⟩
set_option maxHeartbeats 4000000 in
set_option maxRecDepth 100000 in
theorem law_entry {p : Program} {l : Launch} {e : Env} {s : State} {m : MethodId} {args : Array Value} {below : List Frame} {meth : Method} {c : Code} {Q : State → Prop} {D : va_G} {cI cJ cZ cR : ClassId} {b L : Nat} {xs : Nat → Int32} {ret : Option FieldType} (hX : va_X b L xs s s.heap) (hbl : b < s.heap.size) (hL : L ≤ 3584) (kk : ∀ (x0 : Nat) (u : Nat → Nat) (y0 : Nat) (v : Nat → Nat), qOk 31 (qX0 x0 u) → qOk 18 (qM0 y0 v) → VV p l e room_1 s m args below meth c Q 49 3256 cL_law 4 RL wsL_law D vwCl (tysC cI cJ cZ cR) 31 (qX0 x0 u) 18 (qM0 y0 v) b L xs (cX cI cJ cZ cR (qX0 x0 u) 0 1 xi0 (fun _ _ => 0)) (cM cI cJ cZ (qM0 y0 v) (fun _ => 0) ma0) 18 [(3, .int (iI 0)), (2, .ref y0), (1, .ref x0), (0, .ref b)] []) : Y p l e room_1 s m args below meth c Q 0 0 cL_law 4 RL wsL_law D vwCl (tysC cI cJ cZ cR) (fun a => s.heap.size ≤ a) ret [] 0 [(0, .ref b)] [] := by
  refine y_new (ci := 7) (fs := [.null, .null, .null, .null, .null, .null, .null, .null, .int (iI 0), .int (iI 0)]) (T := TX7) (N := 10) tyX7 (fun x0 => [(x0, .inr (7, [.null, .null, .null, .null, .null, .null, .null, .null, .int (iI 0), .int (iI 0)]))]) dL_law_0 ml_cX ml_in7 ml_i7 inlX7 tyX7_ok rfl bfX7 (Nat.le_of_ble_eq_true rfl) (Nat.le_of_ble_eq_true rfl) (fun _ => rfl) (fun x0 => ?_)
  refine y_dup dL_law_3 rfl ?_
  refine y_callI [0] [] [] (fun u => [(x0, .inr (7, [.ref (u 0), .ref (u 1), .ref (u 6), .ref (u 11), .ref (u 12), .ref (u 15), .ref (u 18), .ref (u 20), .int (iI 0), .int (iI 0)])), ((u 0), .inl (cR, 4, .inr (.inr (.inr (.inr (va_up (va_up (va_up (va_up (fun _ => none) 0 (some (u 22))) 1 (some (u 24))) 2 (some (u 26))) 3 (some (u 28)))))))), ((u 1), .inr (2, [.ref (u 2), .ref (u 3), .ref (u 4), .ref (u 5), .int (iI 0), .int (iI 0)])), ((u 2), xAr cI 16 (fun _ => 0)), ((u 3), xAr cI 16 (fun _ => 0)), ((u 4), xAr cZ 16 (fun _ => 0)), ((u 5), xAr cZ 16 (fun _ => 0)), ((u 6), .inr (2, [.ref (u 7), .ref (u 8), .ref (u 9), .ref (u 10), .int (iI 0), .int (iI 0)])), ((u 7), xAr cI 16 (fun _ => 0)), ((u 8), xAr cI 16 (fun _ => 0)), ((u 9), xAr cZ 16 (fun _ => 0)), ((u 10), xAr cZ 16 (fun _ => 0)), ((u 11), .inr (5, [.int (iI 0)])), ((u 12), .inr (0, [.ref (u 13), .ref (u 14), .int (iI 0), .int (iI (-9)), .int (iI 0)])), ((u 13), xAr cI 18 (fun _ => 0)), ((u 14), xAr cI 18 (fun _ => 0)), ((u 15), .inr (1, [.ref (u 16), .ref (u 17), .int (iI 0)])), ((u 16), xAr cI 8 (fun _ => 0)), ((u 17), xAr cI 8 (fun _ => 0)), ((u 18), .inr (4, [.ref (u 19), .int (iI 0)])), ((u 19), .inl (cJ, 832, .inr (.inl (fun k => lI ((fun _ => 0) k))))), ((u 20), .inr (6, [.ref (u 21)])), ((u 21), xAr cI 512 (fun _ => 0)), ((u 22), .inr (3, [.ref (u 23), .int (iI (-1)), .int (iI 0)])), ((u 23), xAr cI 60 (fun _ => 0)), ((u 24), .inr (3, [.ref (u 25), .int (iI (-1)), .int (iI 0)])), ((u 25), xAr cI 60 (fun _ => 0)), ((u 26), .inr (3, [.ref (u 27), .int (iI (-1)), .int (iI 0)])), ((u 27), xAr cI 60 (fun _ => 0)), ((u 28), .inr (3, [.ref (u 29), .int (iI (-1)), .int (iI 0)])), ((u 29), xAr cI 60 (fun _ => 0))]) (ci_X7_init x0) dL_law_4 gL_law_X7_init ml_mX ml_i7 ml_sX rfl rfl cd_X7_init ⟨Nat.le_of_ble_eq_true rfl, Nat.le_of_ble_eq_true rfl⟩ rfl rfl rfl rfl (by decide) (by decide) (by decide) (Nat.le_of_ble_eq_true rfl) ⟨Nat.le_of_ble_eq_true rfl, Nat.le_of_ble_eq_true rfl⟩ (fun _ => rfl) (fun u => ?_)
  refine y_astore_n [(1, .ref x0), (0, .ref b)] dL_law_7 rfl (by decide) rfl ?_
  refine y_new (ci := 8) (fs := [.int (iI 0), .int (iI 0), .int (iI 0), .null, .null, .null, .null, .int (iI 0), .int (iI 0), .int (iI 0), .null, .null, .null, .null, .int (iI 0), .int (iI 0), .int (iI 0), .long (lI 0), .int (iI 0), .null, .null, .null, .int (iI 0), .null, .null, .null, .null, .null, .null, .int (iI 0)]) (T := TX8) (N := 30) tyX8 (fun y0 => [(x0, .inr (7, [.ref (u 0), .ref (u 1), .ref (u 6), .ref (u 11), .ref (u 12), .ref (u 15), .ref (u 18), .ref (u 20), .int (iI 0), .int (iI 0)])), ((u 0), .inl (cR, 4, .inr (.inr (.inr (.inr (va_up (va_up (va_up (va_up (fun _ => none) 0 (some (u 22))) 1 (some (u 24))) 2 (some (u 26))) 3 (some (u 28)))))))), ((u 1), .inr (2, [.ref (u 2), .ref (u 3), .ref (u 4), .ref (u 5), .int (iI 0), .int (iI 0)])), ((u 2), xAr cI 16 (fun _ => 0)), ((u 3), xAr cI 16 (fun _ => 0)), ((u 4), xAr cZ 16 (fun _ => 0)), ((u 5), xAr cZ 16 (fun _ => 0)), ((u 6), .inr (2, [.ref (u 7), .ref (u 8), .ref (u 9), .ref (u 10), .int (iI 0), .int (iI 0)])), ((u 7), xAr cI 16 (fun _ => 0)), ((u 8), xAr cI 16 (fun _ => 0)), ((u 9), xAr cZ 16 (fun _ => 0)), ((u 10), xAr cZ 16 (fun _ => 0)), ((u 11), .inr (5, [.int (iI 0)])), ((u 12), .inr (0, [.ref (u 13), .ref (u 14), .int (iI 0), .int (iI (-9)), .int (iI 0)])), ((u 13), xAr cI 18 (fun _ => 0)), ((u 14), xAr cI 18 (fun _ => 0)), ((u 15), .inr (1, [.ref (u 16), .ref (u 17), .int (iI 0)])), ((u 16), xAr cI 8 (fun _ => 0)), ((u 17), xAr cI 8 (fun _ => 0)), ((u 18), .inr (4, [.ref (u 19), .int (iI 0)])), ((u 19), .inl (cJ, 832, .inr (.inl (fun k => lI ((fun _ => 0) k))))), ((u 20), .inr (6, [.ref (u 21)])), ((u 21), xAr cI 512 (fun _ => 0)), ((u 22), .inr (3, [.ref (u 23), .int (iI (-1)), .int (iI 0)])), ((u 23), xAr cI 60 (fun _ => 0)), ((u 24), .inr (3, [.ref (u 25), .int (iI (-1)), .int (iI 0)])), ((u 25), xAr cI 60 (fun _ => 0)), ((u 26), .inr (3, [.ref (u 27), .int (iI (-1)), .int (iI 0)])), ((u 27), xAr cI 60 (fun _ => 0)), ((u 28), .inr (3, [.ref (u 29), .int (iI (-1)), .int (iI 0)])), ((u 29), xAr cI 60 (fun _ => 0)), (y0, .inr (8, [.int (iI 0), .int (iI 0), .int (iI 0), .null, .null, .null, .null, .int (iI 0), .int (iI 0), .int (iI 0), .null, .null, .null, .null, .int (iI 0), .int (iI 0), .int (iI 0), .long (lI 0), .int (iI 0), .null, .null, .null, .int (iI 0), .null, .null, .null, .null, .null, .null, .int (iI 0)]))]) dL_law_8 ml_cM ml_in8 ml_i8 inlX8 tyX8_ok rfl bfX8 (Nat.le_of_ble_eq_true rfl) (Nat.le_of_ble_eq_true rfl) (fun _ => rfl) (fun y0 => ?_)
  refine y_dup dL_law_11 rfl ?_
  refine y_callI [31] [0, 1, 2, 3, 4, 5, 6, 7, 8, 9, 10, 11, 12, 13, 14, 15, 16, 17, 18, 19, 20, 21, 22, 23, 24, 25, 26, 27, 28, 29, 30] [(x0, .inr (7, [.ref (u 0), .ref (u 1), .ref (u 6), .ref (u 11), .ref (u 12), .ref (u 15), .ref (u 18), .ref (u 20), .int (iI 0), .int (iI 0)])), ((u 0), .inl (cR, 4, .inr (.inr (.inr (.inr (va_up (va_up (va_up (va_up (fun _ => none) 0 (some (u 22))) 1 (some (u 24))) 2 (some (u 26))) 3 (some (u 28)))))))), ((u 1), .inr (2, [.ref (u 2), .ref (u 3), .ref (u 4), .ref (u 5), .int (iI 0), .int (iI 0)])), ((u 2), xAr cI 16 (fun _ => 0)), ((u 3), xAr cI 16 (fun _ => 0)), ((u 4), xAr cZ 16 (fun _ => 0)), ((u 5), xAr cZ 16 (fun _ => 0)), ((u 6), .inr (2, [.ref (u 7), .ref (u 8), .ref (u 9), .ref (u 10), .int (iI 0), .int (iI 0)])), ((u 7), xAr cI 16 (fun _ => 0)), ((u 8), xAr cI 16 (fun _ => 0)), ((u 9), xAr cZ 16 (fun _ => 0)), ((u 10), xAr cZ 16 (fun _ => 0)), ((u 11), .inr (5, [.int (iI 0)])), ((u 12), .inr (0, [.ref (u 13), .ref (u 14), .int (iI 0), .int (iI (-9)), .int (iI 0)])), ((u 13), xAr cI 18 (fun _ => 0)), ((u 14), xAr cI 18 (fun _ => 0)), ((u 15), .inr (1, [.ref (u 16), .ref (u 17), .int (iI 0)])), ((u 16), xAr cI 8 (fun _ => 0)), ((u 17), xAr cI 8 (fun _ => 0)), ((u 18), .inr (4, [.ref (u 19), .int (iI 0)])), ((u 19), .inl (cJ, 832, .inr (.inl (fun k => lI ((fun _ => 0) k))))), ((u 20), .inr (6, [.ref (u 21)])), ((u 21), xAr cI 512 (fun _ => 0)), ((u 22), .inr (3, [.ref (u 23), .int (iI (-1)), .int (iI 0)])), ((u 23), xAr cI 60 (fun _ => 0)), ((u 24), .inr (3, [.ref (u 25), .int (iI (-1)), .int (iI 0)])), ((u 25), xAr cI 60 (fun _ => 0)), ((u 26), .inr (3, [.ref (u 27), .int (iI (-1)), .int (iI 0)])), ((u 27), xAr cI 60 (fun _ => 0)), ((u 28), .inr (3, [.ref (u 29), .int (iI (-1)), .int (iI 0)])), ((u 29), xAr cI 60 (fun _ => 0))] (fun v => W49 cI cJ cZ cR x0 u y0 v) (ci_X8_init y0) dL_law_12 gL_law_X8_init ml_mM ml_i8 ml_sM rfl rfl cd_X8_init ⟨Nat.le_of_ble_eq_true rfl, Nat.le_of_ble_eq_true rfl⟩ rfl rfl rfl rfl (by decide) (by decide) (by decide) (Nat.le_of_ble_eq_true rfl) ⟨Nat.le_of_ble_eq_true rfl, Nat.le_of_ble_eq_true rfl⟩ (fun _ => rfl) (fun v => ?_)
  refine y_astore_n [(2, .ref y0), (1, .ref x0), (0, .ref b)] dL_law_15 rfl (by decide) rfl ?_
  refine y_iconst dL_law_16 ?_
  refine y_istore_n [(3, .int (iI 0)), (2, .ref y0), (1, .ref x0), (0, .ref b)] dL_law_17 rfl (by decide) rfl ?_
  exact y_toV hX hbl hL (kk x0 u y0 v)
theorem nw_in : ∀ w ∈ NWl, w ∈ lw_tbl := by decide +kernel
theorem ao_in : Cond.arrayOver (.object "PoleBehind$Row") ∈ lw_tbl := List.mem_append_right _ (List.mem_of_getElem? (i := 23) (by decide +kernel))
theorem tab_start {s : State} {args : Array Value} (hts : ∀ w ∈ lw_tbl, w.before args s = true) : ∃ (D : va_G) (cI cJ cZ cR : ClassId), va_K D vwCl (tysC cI cJ cZ cR) s ∧ NWs s ∧ va_AO "PoleBehind$Row" s := by
  have hl : ∀ w ∈ wsL_law, w.before args s = true := fun w hw => hts w (wsL_law_in w hw)
  obtain ⟨c0, i0, hk0⟩ := u_known (C := RX0) (T := TX0) (N := 5) (n := 5) hl inlX0 (hl _ ml_in0)
  obtain ⟨c1, i1, hk1⟩ := u_known (C := RX1) (T := TX1) (N := 3) (n := 3) hl inlX1 (hl _ ml_in1)
  obtain ⟨c2, i2, hk2⟩ := u_known (C := RX2) (T := TX2) (N := 6) (n := 6) hl inlX2 (hl _ ml_in2)
  obtain ⟨c3, i3, hk3⟩ := u_known (C := RX3) (T := TX3) (N := 3) (n := 3) hl inlX3 (hl _ ml_in3)
  obtain ⟨c4, i4, hk4⟩ := u_known (C := RX4) (T := TX4) (N := 2) (n := 2) hl inlX4 (hl _ ml_in4)
  obtain ⟨c5, i5, hk5⟩ := u_known (C := RX5) (T := TX5) (N := 1) (n := 1) hl inlX5 (hl _ ml_in5)
  obtain ⟨c6, i6, hk6⟩ := u_known (C := RX6) (T := TX6) (N := 1) (n := 1) hl inlX6 (hl _ ml_in6)
  obtain ⟨c7, i7, hk7⟩ := u_known (C := RX7) (T := TX7) (N := 10) (n := 10) hl inlX7 (hl _ ml_in7)
  obtain ⟨c8, i8, hk8⟩ := u_known (C := RX8) (T := TX8) (N := 30) (n := 30) hl inlX8 (hl _ ml_in8)
  obtain ⟨cI, kI, pI, aI1, aI2, aI3⟩ := Cond.arrayClass_spec (hl _ ml_aI)
  obtain ⟨cJ, kJ, pJ, aJ1, aJ2, aJ3⟩ := Cond.arrayClass_spec (hl _ ml_aJ)
  obtain ⟨cZ, kZ, pZ, aZ1, aZ2, aZ3⟩ := Cond.arrayClass_spec (hl _ ml_aZ)
  obtain ⟨pR, cR, kR, r1, r2, r3, r4, r5⟩ := Cond.arrayOver_spec (hts _ ao_in)
  refine ⟨(fun k => match k with | 0 => c0 | 1 => c1 | 2 => c2 | 3 => c3 | 4 => c4 | 5 => c5 | 6 => c6 | 7 => c7 | _ => c8, fun k => match k with | 0 => i0 | 1 => i1 | 2 => i2 | 3 => i3 | 4 => i4 | 5 => i5 | 6 => i6 | 7 => i7 | _ => i8), cI, cJ, cZ, cR, ⟨fun k q hq => ?_, fun k q hq => ?_⟩, fun w hw => va_Nw.of (nest_tab (NW_nest w hw)) (hts w (nw_in w hw)), va_AO.of (hts _ ao_in)⟩
  · match k, hq with
    | 0, hq => cases hq; exact hk0
    | 1, hq => cases hq; exact hk1
    | 2, hq => cases hq; exact hk2
    | 3, hq => cases hq; exact hk3
    | 4, hq => cases hq; exact hk4
    | 5, hq => cases hq; exact hk5
    | 6, hq => cases hq; exact hk6
    | 7, hq => cases hq; exact hk7
    | 8, hq => cases hq; exact hk8
    | k + 9, hq => simp [vwCl] at hq
  · match k, hq with
    | 0, hq => cases hq; exact ⟨fun n z => ⟨fun k h => (by cases h), kI, aI2, pI, aI3⟩, aI1⟩
    | 1, hq => cases hq; exact ⟨fun n z => ⟨fun k h => (by cases h), kJ, aJ2, pJ, aJ3⟩, aJ1⟩
    | 2, hq => cases hq; exact ⟨fun n z => ⟨fun k h => (by cases h), kZ, aZ2, pZ, aZ3⟩, aZ1⟩
    | 3, hq => cases hq; exact ⟨fun n z => ⟨fun k h => (by cases h), kR, r3, pR, r4⟩, kR, pR, r3, r4, r1, r5⟩
    | k + 4, hq => simp at hq
