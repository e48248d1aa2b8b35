theorem m_X2_bridgeCount_f25 : Cond.fieldLink RX2 25 "PoleBehind$River" "count" "I" ∈ wsX2_bridgeCount := List.mem_of_getElem? (i := 1) rfl
theorem in_X2_bridgeCount_X2 : ∀ w ∈ wsX20, w ∈ wsX2_bridgeCount := fun _ h => List.mem_cons_of_mem _ (List.mem_append_right _ h)
theorem cd_X2_isBridged : yX2_isBridged.cls = RX2 ∧ yX2_isBridged.cls ≠ "java/lang/invoke/MethodHandle" ∧ yX2_isBridged.cls ≠ "java/lang/invoke/VarHandle" ∧ (parseMethodDescriptor yX2_isBridged.desc).map (fun d => d.parameters.length) = some 1 := ⟨rfl, by decide +kernel, by decide +kernel, by decide +kernel⟩
theorem cd_X7_asBit : yX7_asBit.cls ≠ "java/lang/invoke/MethodHandle" ∧ yX7_asBit.cls ≠ "java/lang/invoke/VarHandle" ∧ (parseMethodDescriptor yX7_asBit.desc).map (fun d => d.parameters.length) = some 1 := ⟨by decide +kernel, by decide +kernel, by decide +kernel⟩
theorem nwm_X2_39 : Cond.methodLinkNest RX2 39 yX7_asBit "PoleBehind" ∈ NWl := List.mem_of_getElem? (i := 24) rfl
theorem m_X2_bridgeCount_st_X7_asBit : Cond.static yX7_asBit ∈ wsX2_bridgeCount := List.mem_of_getElem? (i := 12) rfl
theorem m_X2_bridgeCount_in_X7_asBit : Cond.initialized yX7_asBit.cls ∈ wsX2_bridgeCount := List.mem_of_getElem? (i := 13) rfl
set_option maxHeartbeats 4000000 in
set_option maxRecDepth 100000 in
theorem c_X2_bridgeCount {l : Launch} {D : va_G} {cI cJ cZ cR : ClassId} {q : Nat → Nat} {w d : Nat} {xi : Nat → Int} {xa : Nat → Nat → Int} (hq : qOk 31 q) {b : Nat} (hb : b < 2) (hR : RvOk xi xa b) : Cti l D vwCl (tysC cI cJ cZ cR) 31 q yX2_bridgeCount wsX2_bridgeCount ({ frames := 2, cells := 0, slots := 0, locals := 42 } : Room) [.ref (q (10 + b))] (cX cI cJ cZ cR q w d xi xa) (fun (r : Int32) (g : Nat → va_E) => (∃ e : Int, (e = sumT (rB (rvX xi xa b)) (xi (10 + b)).toNat) ∧ r = iI e) ∧ g = (cX cI cJ cZ cR q w d xi xa)) := by
  refine Cti.of (cc := cX2_bridgeCount) (nL := 3) (own := RX2) (ret := (some .int)) (by decide) rfl rfl hq (Nat.le_of_ble_eq_true rfl) (fun p e s m args below meth c => ?_)
  obtain ⟨hN, hP, hK, hM, hD, hB⟩ := id hR
  have hnn : rN (rvX xi xa b) = xi (10 + b) := rfl
  refine z_iconst dX2_bridgeCount_0 ?_
  refine z_istore_n [(1, .int (iI 0)), (0, .ref (q (10 + b)))] dX2_bridgeCount_1 rfl (by decide) rfl ?_
  refine z_iconst dX2_bridgeCount_2 ?_
  refine z_istore_n [(2, .int (iI 0)), (1, .int (iI 0)), (0, .ref (q (10 + b)))] dX2_bridgeCount_3 rfl (by decide) rfl ?_
  have hl_4 : ∀ (N_4 : Nat) (u : Int) (ac : Int), (20 - u).toNat < N_4 → (0 ≤ u ∧ u ≤ xi (10 + b)) → (ac = sumT (rB (rvX xi xa b)) u.toNat) → ZMi l D vwCl (tysC cI cJ cZ cR) 31 q ({ frames := 2, cells := 0, slots := 0, locals := 42 } : Room) cX2_bridgeCount 3 RX2 wsX2_bridgeCount (some .int) (fun (r : Int32) (g : Nat → va_E) => (∃ e : Int, (e = sumT (rB (rvX xi xa b)) (xi (10 + b)).toNat) ∧ r = iI e) ∧ g = (cX cI cJ cZ cR q w d xi xa)) p e s m args below meth c (cX cI cJ cZ cR q w d xi xa) 4 [(2, .int (iI u)), (1, .int (iI ac)), (0, .ref (q (10 + b)))] [] := by
    intro N_4
    induction N_4 with
    | zero => intro u ac hm; exact absurd hm (Nat.not_lt_zero _)
    | succ N_4 ih_4 =>
      intro u ac hm_4 hu hac
      have hbu := hB u.toNat
      refine z_iload_n (j := 0) dX2_bridgeCount_4 rfl rfl ?_
      refine z_aload_n (j := 2) dX2_bridgeCount_5 rfl rfl ?_
      refine z_getf (i := 10 + b) (ci := 2) (k := 4) (v := .int (iI (xi (10 + b)))) dX2_bridgeCount_6 m_X2_bridgeCount_f25 in_X2_bridgeCount_X2 rfl (by decide) rfl (by omega) (cX_rv hb) rfl ?_
      refine z_icmp_ge (tgt := 29) dX2_bridgeCount_9 (by decide) (by omega) (by omega) (fun c_9 => ?_) (fun c_9 => ?_)
      · refine z_iload_n (j := 1) dX2_bridgeCount_29 rfl rfl ?_
        exact z_iret dX2_bridgeCount_30 ⟨⟨_, (by rw [hac, show u.toNat = (xi (10 + b)).toNat by omega]), rfl⟩, rfl⟩
      · refine z_iload_n (j := 1) dX2_bridgeCount_12 rfl rfl ?_
        refine z_aload_n (j := 2) dX2_bridgeCount_13 rfl rfl ?_
        refine z_iload_n (j := 0) dX2_bridgeCount_14 rfl rfl ?_
        refine z_callVi (i := 10 + b) (ci := 2) (As := [.int (iI u)]) (rest := [.int (iI ac)]) (c_X2_isBridged  hq hb hR (by omega)) dX2_bridgeCount_15 gX2_bridgeCount_X2_isBridged rfl cd_X2_isBridged ⟨Nat.le_of_ble_eq_true rfl, Nat.le_of_ble_eq_true rfl⟩ rfl rfl (by omega) (cX_rv hb) rfl rfl (Nat.le_of_ble_eq_true rfl) ⟨Nat.zero_le _, Nat.zero_le _⟩ (fun r_15 g_15 hp_15 => ?_)
        obtain ⟨⟨h_15, rfl⟩ | ⟨h_15, rfl⟩, rfl⟩ := hp_15
        · refine z_callNi (As := [.int (iI 1)]) (rest := [.int (iI ac)]) (c_X7_asBit  hq (by omega)) dX2_bridgeCount_18 gX2_bridgeCount_X7_asBit_n39 nwm_X2_39 m_X2_bridgeCount_st_X7_asBit m_X2_bridgeCount_in_X7_asBit rfl cd_X7_asBit ⟨Nat.le_of_ble_eq_true rfl, Nat.le_of_ble_eq_true rfl⟩ rfl rfl rfl (Nat.le_of_ble_eq_true rfl) ⟨Nat.zero_le _, Nat.zero_le _⟩ (fun r_18 g_18 hp_18 => ?_)
          obtain ⟨⟨_, rfl, rfl⟩, rfl⟩ := hp_18
          refine z_iadd dX2_bridgeCount_21 ?_
          refine z_istore_n [(1, .int (iI (ac + 1))), (2, .int (iI u)), (0, .ref (q (10 + b)))] dX2_bridgeCount_22 rfl (by decide) rfl ?_
          refine z_iinc (j := 1) [(2, .int (iI (u + 1))), (1, .int (iI (ac + 1))), (0, .ref (q (10 + b)))] dX2_bridgeCount_23 rfl (by decide) rfl ?_
          refine z_goto (tgt := 4) dX2_bridgeCount_26 (by decide) ?_
          exact z_sub [(2, .int (iI (u + 1))), (1, .int (iI (ac + 1))), (0, .ref (q (10 + b)))] [0, 1, 2] rfl (ih_4 (u + 1) (ac + 1) (by omega) (by omega) (by rw [stepN hu.1, sumT, ← hac, show rB (rvX xi xa b) u.toNat = xa (10 + b) u.toNat from nrm_in (by omega)]; omega))
        · refine z_callNi (As := [.int (iI 0)]) (rest := [.int (iI ac)]) (c_X7_asBit  hq (by omega)) dX2_bridgeCount_18 gX2_bridgeCount_X7_asBit_n39 nwm_X2_39 m_X2_bridgeCount_st_X7_asBit m_X2_bridgeCount_in_X7_asBit rfl cd_X7_asBit ⟨Nat.le_of_ble_eq_true rfl, Nat.le_of_ble_eq_true rfl⟩ rfl rfl rfl (Nat.le_of_ble_eq_true rfl) ⟨Nat.zero_le _, Nat.zero_le _⟩ (fun r_18 g_18 hp_18 => ?_)
          obtain ⟨⟨_, rfl, rfl⟩, rfl⟩ := hp_18
          refine z_iadd dX2_bridgeCount_21 ?_
          refine z_istore_n [(1, .int (iI (ac + 0))), (2, .int (iI u)), (0, .ref (q (10 + b)))] dX2_bridgeCount_22 rfl (by decide) rfl ?_
          refine z_iinc (j := 1) [(2, .int (iI (u + 1))), (1, .int (iI (ac + 0))), (0, .ref (q (10 + b)))] dX2_bridgeCount_23 rfl (by decide) rfl ?_
          refine z_goto (tgt := 4) dX2_bridgeCount_26 (by decide) ?_
          exact z_sub [(2, .int (iI (u + 1))), (1, .int (iI (ac + 0))), (0, .ref (q (10 + b)))] [0, 1, 2] rfl (ih_4 (u + 1) (ac + 0) (by omega) (by omega) (by rw [stepN hu.1, sumT, ← hac, show rB (rvX xi xa b) u.toNat = xa (10 + b) u.toNat from nrm_in (by omega)]; omega))
  exact z_sub [(2, .int (iI 0)), (1, .int (iI 0)), (0, .ref (q (10 + b)))] [0, 1, 2] rfl (hl_4 _ 0 0 (Nat.lt_succ_self _) (by omega) (rfl))
theorem cd_X2_after : yX2_after.cls = RX2 ∧ yX2_after.cls ≠ "java/lang/invoke/MethodHandle" ∧ yX2_after.cls ≠ "java/lang/invoke/VarHandle" ∧ (parseMethodDescriptor yX2_after.desc).map (fun d => d.parameters.length) = some 2 := ⟨rfl, by decide +kernel, by decide +kernel, by decide +kernel⟩
set_option maxHeartbeats 4000000 in
set_option maxRecDepth 100000 in
theorem c_X2_eachAfter {l : Launch} {D : va_G} {cI cJ cZ cR : ClassId} {q : Nat → Nat} {w d : Nat} {xi : Nat → Int} {xa : Nat → Nat → Int} (hq : qOk 31 q) {b : Nat} {z : Int} (hb : b < 2) (hR : RvOk xi xa b) (hz : 0 ≤ z ∧ z < 100000) : Ctl l D vwCl (tysC cI cJ cZ cR) 31 q yX2_eachAfter wsX2_eachAfter ({ frames := 3, cells := 0, slots := 0, locals := 70 } : Room) [.ref (q (10 + b)), .int (iI z)] (cX cI cJ cZ cR q w d xi xa) (fun (r : Int64) (g : Nat → va_E) => (∃ e : Int, (e = ((emk (rvX xi xa b) z 4 : Nat) : Int)) ∧ r = lI e) ∧ g = (cX cI cJ cZ cR q w d xi xa)) := by
  refine Ctl.of (cc := cX2_eachAfter) (nL := 6) (own := RX2) (ret := (some .long)) (by decide) rfl rfl hq (Nat.le_of_ble_eq_true rfl) (fun p e s m args below meth c => ?_)
  obtain ⟨hN, hP, hK, hM, hD, hB⟩ := id hR
  have hnn : rN (rvX xi xa b) = xi (10 + b) := rfl
  have hnn16 : rN (rvX xi xa b) ≤ 16 := by rw [hnn]; omega
  refine z_lconst (z := 0) dX2_eachAfter_0 (by decide) ?_
  refine z_lstore_n [(2, .long (lI 0)), (0, .ref (q (10 + b))), (1, .int (iI z))] dX2_eachAfter_1 rfl (by decide) rfl ?_
  refine z_iconst dX2_eachAfter_2 ?_
  refine z_istore [(4, .int (iI 0)), (2, .long (lI 0)), (0, .ref (q (10 + b))), (1, .int (iI z))] dX2_eachAfter_3 (by decide) rfl ?_
  have hl_5 : ∀ (N_5 : Nat) (u : Int) (nx : Nat), (5 - u).toNat < N_5 → (0 ≤ u ∧ u ≤ 4) → (nx = emk (rvX xi xa b) z u.toNat) → ZMl l D vwCl (tysC cI cJ cZ cR) 31 q ({ frames := 3, cells := 0, slots := 0, locals := 70 } : Room) cX2_eachAfter 6 RX2 wsX2_eachAfter (some .long) (fun (r : Int64) (g : Nat → va_E) => (∃ e : Int, (e = ((emk (rvX xi xa b) z 4 : Nat) : Int)) ∧ r = lI e) ∧ g = (cX cI cJ cZ cR q w d xi xa)) p e s m args below meth c (cX cI cJ cZ cR q w d xi xa) 5 [(4, .int (iI u)), (2, .long (lI ((nx : Nat) : Int))), (0, .ref (q (10 + b))), (1, .int (iI z))] [] := by
    intro N_5
    induction N_5 with
    | zero => intro u nx hm; exact absurd hm (Nat.not_lt_zero _)
    | succ N_5 ih_5 =>
      intro u nx hm_5 hu hnx
      have hlt := emk_lt (R := (rvX xi xa b)) (s := z) hnn16 hz.1 u.toNat
      have har := aftA_rng (R := (rvX xi xa b)) (act := u) (s := z) hnn16 hz.1
      rw [← hnx] at hlt
      refine z_iload (j := 0) dX2_eachAfter_5 rfl ?_
      refine z_iconst dX2_eachAfter_7 ?_
      refine z_icmp_gt (tgt := 39) dX2_eachAfter_8 (by decide) (by omega) (by decide) (fun c_8 => ?_) (fun c_8 => ?_)
      · refine z_lload_n (j := 1) dX2_eachAfter_39 rfl rfl ?_
        exact z_lret dX2_eachAfter_40 ⟨⟨_, (by rw [hnx, show u.toNat = 4 by omega]), rfl⟩, rfl⟩
      · refine z_aload_n (j := 2) dX2_eachAfter_11 rfl rfl ?_
        refine z_iload_n (j := 3) dX2_eachAfter_12 rfl rfl ?_
        refine z_iload (j := 0) dX2_eachAfter_13 rfl ?_
        refine z_callVi (i := 10 + b) (ci := 2) (As := [.int (iI z), .int (iI u)]) (rest := []) (c_X2_after  hq hb hR (by omega) (by omega)) dX2_eachAfter_15 gX2_eachAfter_X2_after rfl cd_X2_after ⟨Nat.le_of_ble_eq_true rfl, Nat.le_of_ble_eq_true rfl⟩ rfl rfl (by omega) (cX_rv hb) rfl rfl (Nat.le_of_ble_eq_true rfl) ⟨Nat.zero_le _, Nat.zero_le _⟩ (fun r_15 g_15 hp_15 => ?_)
        obtain ⟨⟨_, rfl, rfl⟩, rfl⟩ := hp_15
        refine z_istore [(5, .int (iI (aftA (rvX xi xa b) u z))), (4, .int (iI u)), (2, .long (lI ((nx : Nat) : Int))), (0, .ref (q (10 + b))), (1, .int (iI z))] dX2_eachAfter_18 (by decide) rfl ?_
        refine z_iload (j := 0) dX2_eachAfter_20 rfl ?_
        refine z_iconst dX2_eachAfter_22 ?_
        refine z_icmp_eq (tgt := 33) dX2_eachAfter_23 (by decide) (by omega) (by decide) (fun c_23 => ?_) (fun c_23 => ?_)
        · refine z_iinc (j := 1) [(4, .int (iI (u + 1))), (5, .int (iI (aftA (rvX xi xa b) u z))), (2, .long (lI ((nx : Nat) : Int))), (0, .ref (q (10 + b))), (1, .int (iI z))] dX2_eachAfter_33 rfl (by decide) rfl ?_
          refine z_goto (tgt := 5) dX2_eachAfter_36 (by decide) ?_
          exact z_sub [(4, .int (iI (u + 1))), (2, .long (lI ((nx : Nat) : Int))), (0, .ref (q (10 + b))), (1, .int (iI z))] [0, 2, 3, 4] rfl (ih_5 (u + 1) nx (by omega) (by omega) (by rw [stepN hu.1, emk, castN hu.1]; first | rw [if_pos c_23, hnx] | rw [if_neg c_23, hnx]))
        · refine z_lload_n (j := 2) dX2_eachAfter_26 rfl rfl ?_
          refine z_lconst (z := 1) dX2_eachAfter_27 (by decide) ?_
          refine z_iload (j := 0) dX2_eachAfter_28 rfl ?_
          refine z_lshl (v := lI ((2 ^ (aftA (rvX xi xa b) u z).toNat : Nat) : Int)) dX2_eachAfter_30 (bl_shl1 (by omega)) ?_
          refine z_lor (lI ((nx ||| 2 ^ (aftA (rvX xi xa b) u z).toNat : Nat) : Int)) dX2_eachAfter_31 (bl_or hlt (pow64 (by omega))) ?_
          refine z_lstore_n [(2, .long (lI ((nx ||| 2 ^ (aftA (rvX xi xa b) u z).toNat : Nat) : Int))), (5, .int (iI (aftA (rvX xi xa b) u z))), (4, .int (iI u)), (0, .ref (q (10 + b))), (1, .int (iI z))] dX2_eachAfter_32 rfl (by decide) rfl ?_
          refine z_iinc (j := 2) [(4, .int (iI (u + 1))), (2, .long (lI ((nx ||| 2 ^ (aftA (rvX xi xa b) u z).toNat : Nat) : Int))), (5, .int (iI (aftA (rvX xi xa b) u z))), (0, .ref (q (10 + b))), (1, .int (iI z))] dX2_eachAfter_33 rfl (by decide) rfl ?_
          refine z_goto (tgt := 5) dX2_eachAfter_36 (by decide) ?_
          exact z_sub [(4, .int (iI (u + 1))), (2, .long (lI ((nx ||| 2 ^ (aftA (rvX xi xa b) u z).toNat : Nat) : Int))), (0, .ref (q (10 + b))), (1, .int (iI z))] [0, 1, 3, 4] rfl (ih_5 (u + 1) (nx ||| 2 ^ (aftA (rvX xi xa b) u z).toNat) (by omega) (by omega) (by rw [stepN hu.1, emk, castN hu.1]; first | rw [if_pos c_23, hnx] | rw [if_neg c_23, hnx]))
  exact z_sub [(4, .int (iI 0)), (2, .long (lI 0)), (0, .ref (q (10 + b))), (1, .int (iI z))] [0, 1, 2, 3] rfl (hl_5 _ 0 0 (Nat.lt_succ_self _) (by omega) (rfl))
theorem cd_X2_spots : yX2_spots.cls = RX2 ∧ yX2_spots.cls ≠ "java/lang/invoke/MethodHandle" ∧ yX2_spots.cls ≠ "java/lang/invoke/VarHandle" ∧ (parseMethodDescriptor yX2_spots.desc).map (fun d => d.parameters.length) = some 0 := ⟨rfl, by decide +kernel, by decide +kernel, by decide +kernel⟩
theorem cd_X2_eachAfter : yX2_eachAfter.cls = RX2 ∧ yX2_eachAfter.cls ≠ "java/lang/invoke/MethodHandle" ∧ yX2_eachAfter.cls ≠ "java/lang/invoke/VarHandle" ∧ (parseMethodDescriptor yX2_eachAfter.desc).map (fun d => d.parameters.length) = some 1 := ⟨rfl, by decide +kernel, by decide +kernel, by decide +kernel⟩
set_option maxHeartbeats 4000000 in
set_option maxRecDepth 100000 in
theorem c_X2_allAfter {l : Launch} {D : va_G} {cI cJ cZ cR : ClassId} {q : Nat → Nat} {w d : Nat} {xi : Nat → Int} {xa : Nat → Nat → Int} (hq : qOk 31 q) {b : Nat} {mm : Nat} (hb : b < 2) (hR : RvOk xi xa b) (hmm : mm < 2 ^ 64) : Ctl l D vwCl (tysC cI cJ cZ cR) 31 q yX2_allAfter wsX2_allAfter ({ frames := 4, cells := 0, slots := 0, locals := 95 } : Room) [.ref (q (10 + b)), .long (lI ((mm : Nat) : Int))] (cX cI cJ cZ cR q w d xi xa) (fun (r : Int64) (g : Nat → va_E) => (∃ e : Int, (e = ((allM (rvX xi xa b) mm : Nat) : Int)) ∧ r = lI e) ∧ g = (cX cI cJ cZ cR q w d xi xa)) := by
  refine Ctl.of (cc := cX2_allAfter) (nL := 6) (own := RX2) (ret := (some .long)) (by decide) rfl rfl hq (Nat.le_of_ble_eq_true rfl) (fun p e s m args below meth c => ?_)
  obtain ⟨hN, hP, hK, hM, hD, hB⟩ := id hR
  have hnn : rN (rvX xi xa b) = xi (10 + b) := rfl
  have hnn16 : rN (rvX xi xa b) ≤ 16 := by rw [hnn]; omega
  refine z_lconst (z := 0) dX2_allAfter_0 (by decide) ?_
  refine z_lstore_n [(3, .long (lI 0)), (0, .ref (q (10 + b))), (1, .long (lI ((mm : Nat) : Int)))] dX2_allAfter_1 rfl (by decide) rfl ?_
  refine z_iconst dX2_allAfter_2 ?_
  refine z_istore [(5, .int (iI 0)), (3, .long (lI 0)), (0, .ref (q (10 + b))), (1, .long (lI ((mm : Nat) : Int)))] dX2_allAfter_3 (by decide) rfl ?_
  have hl_5 : ∀ (N_5 : Nat) (u : Int) (nx : Nat), (65 - u).toNat < N_5 → (0 ≤ u ∧ u ≤ 4 * xi (10 + b)) → (nx = akm (rvX xi xa b) mm u.toNat) → ZMl l D vwCl (tysC cI cJ cZ cR) 31 q ({ frames := 4, cells := 0, slots := 0, locals := 95 } : Room) cX2_allAfter 6 RX2 wsX2_allAfter (some .long) (fun (r : Int64) (g : Nat → va_E) => (∃ e : Int, (e = ((allM (rvX xi xa b) mm : Nat) : Int)) ∧ r = lI e) ∧ g = (cX cI cJ cZ cR q w d xi xa)) p e s m args below meth c (cX cI cJ cZ cR q w d xi xa) 5 [(5, .int (iI u)), (3, .long (lI ((nx : Nat) : Int))), (0, .ref (q (10 + b))), (1, .long (lI ((mm : Nat) : Int)))] [] := by
    intro N_5
    induction N_5 with
    | zero => intro u nx hm; exact absurd hm (Nat.not_lt_zero _)
    | succ N_5 ih_5 =>
      intro u nx hm_5 hu hnx
      have hlt := akm_lt (R := (rvX xi xa b)) (mm := mm) hnn16 u.toNat
      rw [← hnx] at hlt
      have hel := emk_lt (R := (rvX xi xa b)) (s := u) hnn16 hu.1 4
      have htb := tb_div mm u.toNat
      have hb2 := Nat.mod_two_eq_zero_or_one (mm / 2 ^ u.toNat)
      obtain ⟨bt, hbt⟩ : ∃ bt : Nat, bt = mm / 2 ^ u.toNat % 2 := ⟨_, rfl⟩
      rw [← hbt] at htb hb2
      have hneg : bt = 0 → ¬ mm.testBit u.toNat = true := fun h => by rw [htb.mp h]; decide
      have hpos : bt ≠ 0 → mm.testBit u.toNat = true := fun h => by
        cases hq1 : mm.testBit u.toNat
        · exact absurd (htb.mpr hq1) h
        · rfl
      refine z_iload (j := 0) dX2_allAfter_5 rfl ?_
      refine z_aload_n (j := 2) dX2_allAfter_7 rfl rfl ?_
      refine z_callVi (i := 10 + b) (ci := 2) (As := []) (rest := [.int (iI u)]) (c_X2_spots  hq hb hR) dX2_allAfter_8 gX2_allAfter_X2_spots rfl cd_X2_spots ⟨Nat.le_of_ble_eq_true rfl, Nat.le_of_ble_eq_true rfl⟩ rfl rfl (by omega) (cX_rv hb) rfl rfl (Nat.le_of_ble_eq_true rfl) ⟨Nat.zero_le _, Nat.zero_le _⟩ (fun r_8 g_8 hp_8 => ?_)
      obtain ⟨⟨_, rfl, rfl⟩, rfl⟩ := hp_8
      refine z_icmp_ge (tgt := 40) dX2_allAfter_11 (by decide) (by omega) (by omega) (fun c_11 => ?_) (fun c_11 => ?_)
      · refine z_lload_n (j := 1) dX2_allAfter_40 rfl rfl ?_
        exact z_lret dX2_allAfter_41 ⟨⟨_, (by rw [hnx, allM, show u.toNat = (4 * rN (rvX xi xa b)).toNat by rw [hnn]; omega]), rfl⟩, rfl⟩
      · refine z_lload_n (j := 3) dX2_allAfter_14 rfl rfl ?_
        refine z_iload (j := 0) dX2_allAfter_15 rfl ?_
        refine z_lushr (v := lI ((mm / 2 ^ u.toNat : Nat) : Int)) dX2_allAfter_17 (bl_ushr hmm (by omega)) ?_
        refine z_lconst (z := 1) dX2_allAfter_18 (by decide) ?_
        refine z_land (lI ((bt : Nat) : Int)) dX2_allAfter_19 (by rw [hbt]; exact bl_and1 (Nat.lt_of_le_of_lt (Nat.div_le_self _ _) hmm)) ?_
        refine z_lconst (z := 0) dX2_allAfter_20 (by decide) ?_
        refine z_lcmp dX2_allAfter_21 (by omega) (by decide) (fun r_21 hr_21 => ?_)
        refine z_if_eq (tgt := 34) dX2_allAfter_22 (by decide) (by omega) (fun c_22 => ?_) (fun c_22 => ?_)
        · refine z_iinc (j := 0) [(5, .int (iI (u + 1))), (3, .long (lI ((nx : Nat) : Int))), (0, .ref (q (10 + b))), (1, .long (lI ((mm : Nat) : Int)))] dX2_allAfter_34 rfl (by decide) rfl ?_
          refine z_goto (tgt := 5) dX2_allAfter_37 (by decide) ?_
          exact z_sub [(5, .int (iI (u + 1))), (3, .long (lI ((nx : Nat) : Int))), (0, .ref (q (10 + b))), (1, .long (lI ((mm : Nat) : Int)))] [0, 1, 2, 3] rfl (ih_5 (u + 1) nx (by omega) (by omega) (by rw [stepN hu.1, akm, castN hu.1]; first | rw [if_pos (hpos (by omega)), hnx] | rw [if_neg (hneg (by omega)), hnx]))
        · refine z_lload_n (j := 1) dX2_allAfter_25 rfl rfl ?_
          refine z_aload_n (j := 2) dX2_allAfter_26 rfl rfl ?_
          refine z_iload (j := 0) dX2_allAfter_27 rfl ?_
          refine z_callVl (i := 10 + b) (ci := 2) (As := [.int (iI u)]) (rest := [.long (lI ((nx : Nat) : Int))]) (c_X2_eachAfter  hq hb hR (by omega)) dX2_allAfter_29 gX2_allAfter_X2_eachAfter rfl cd_X2_eachAfter ⟨Nat.le_of_ble_eq_true rfl, Nat.le_of_ble_eq_true rfl⟩ rfl rfl (by omega) (cX_rv hb) rfl rfl (Nat.le_of_ble_eq_true rfl) ⟨Nat.zero_le _, Nat.zero_le _⟩ (fun r_29 g_29 hp_29 => ?_)
          obtain ⟨⟨_, rfl, rfl⟩, rfl⟩ := hp_29
          refine z_lor (lI ((nx ||| emk (rvX xi xa b) u 4 : Nat) : Int)) dX2_allAfter_32 (bl_or hlt hel) ?_
          refine z_lstore_n [(3, .long (lI ((nx ||| emk (rvX xi xa b) u 4 : Nat) : Int))), (5, .int (iI u)), (0, .ref (q (10 + b))), (1, .long (lI ((mm : Nat) : Int)))] dX2_allAfter_33 rfl (by decide) rfl ?_
          refine z_iinc (j := 1) [(5, .int (iI (u + 1))), (3, .long (lI ((nx ||| emk (rvX xi xa b) u 4 : Nat) : Int))), (0, .ref (q (10 + b))), (1, .long (lI ((mm : Nat) : Int)))] dX2_allAfter_34 rfl (by decide) rfl ?_
          refine z_goto (tgt := 5) dX2_allAfter_37 (by decide) ?_
          exact z_sub [(5, .int (iI (u + 1))), (3, .long (lI ((nx ||| emk (rvX xi xa b) u 4 : Nat) : Int))), (0, .ref (q (10 + b))), (1, .long (lI ((mm : Nat) : Int)))] [0, 1, 2, 3] rfl (ih_5 (u + 1) (nx ||| emk (rvX xi xa b) u 4) (by omega) (by omega) (by rw [stepN hu.1, akm, castN hu.1]; first | rw [if_pos (hpos (by omega)), hnx] | rw [if_neg (hneg (by omega)), hnx]))
  exact z_sub [(5, .int (iI 0)), (3, .long (lI 0)), (0, .ref (q (10 + b))), (1, .long (lI ((mm : Nat) : Int)))] [0, 1, 2, 3] rfl (hl_5 _ 0 0 (Nat.lt_succ_self _) (by omega) (rfl))
theorem cd_X2_start : yX2_start.cls = RX2 ∧ yX2_start.cls ≠ "java/lang/invoke/MethodHandle" ∧ yX2_start.cls ≠ "java/lang/invoke/VarHandle" ∧ (parseMethodDescriptor yX2_start.desc).map (fun d => d.parameters.length) = some 0 := ⟨rfl, by decide +kernel, by decide +kernel, by decide +kernel⟩
theorem m_X2_fewestTurns_C86 : Cond.constantLong RX2 86 (lI (15)) ∈ wsX2_fewestTurns := List.mem_of_getElem? (i := 1) (by decide +kernel)
theorem cd_X2_allAfter : yX2_allAfter.cls = RX2 ∧ yX2_allAfter.cls ≠ "java/lang/invoke/MethodHandle" ∧ yX2_allAfter.cls ≠ "java/lang/invoke/VarHandle" ∧ (parseMethodDescriptor yX2_allAfter.desc).map (fun d => d.parameters.length) = some 1 := ⟨rfl, by decide +kernel, by decide +kernel, by decide +kernel⟩
set_option maxHeartbeats 4000000 in
set_option maxRecDepth 100000 in
theorem c_X2_fewestTurns {l : Launch} {D : va_G} {cI cJ cZ cR : ClassId} {q : Nat → Nat} {w d : Nat} {xi : Nat → Int} {xa : Nat → Nat → Int} (hq : qOk 31 q) {b : Nat} (hb : b < 2) (hR : RvOk xi xa b) (h1 : 1 ≤ xi (10 + b)) : Cti l D vwCl (tysC cI cJ cZ cR) 31 q yX2_fewestTurns wsX2_fewestTurns ({ frames := 5, cells := 0, slots := 0, locals := 120 } : Room) [.ref (q (10 + b))] (cX cI cJ cZ cR q w d xi xa) (fun (r : Int32) (g : Nat → va_E) => (∃ e : Int, (soonX (rvX xi xa b) (xi (12 + b)) e) ∧ r = iI e) ∧ g = (cX cI cJ cZ cR q w d xi xa)) := by
  refine Cti.of (cc := cX2_fewestTurns) (nL := 6) (own := RX2) (ret := (some .int)) (by decide) rfl rfl hq (Nat.le_of_ble_eq_true rfl) (fun p e s m args below meth c => ?_)
  obtain ⟨hN, hP, hK, hM, hD, hB⟩ := id hR
  have hnn : rN (rvX xi xa b) = xi (10 + b) := rfl
  have hnn16 : rN (rvX xi xa b) ≤ 16 := by rw [hnn]; omega
  have htl := teaM_lt (R := (rvX xi xa b)) (by rw [hnn]; omega)
  refine z_lconst (z := 1) dX2_fewestTurns_0 (by decide) ?_
  refine z_aload_n (j := 0) dX2_fewestTurns_1 rfl rfl ?_
  refine z_callVi (i := 10 + b) (ci := 2) (As := []) (rest := [.long (lI 1)]) (c_X2_start  hq hb hR) dX2_fewestTurns_2 gX2_fewestTurns_X2_start rfl cd_X2_start ⟨Nat.le_of_ble_eq_true rfl, Nat.le_of_ble_eq_true rfl⟩ rfl rfl (by omega) (cX_rv hb) rfl rfl (Nat.le_of_ble_eq_true rfl) ⟨Nat.zero_le _, Nat.zero_le _⟩ (fun r_2 g_2 hp_2 => ?_)
  obtain ⟨⟨_, rfl, rfl⟩, rfl⟩ := hp_2
  refine z_lshl (v := lI ((2 ^ (xi (12 + b)).toNat : Nat) : Int)) dX2_fewestTurns_5 (bl_shl1 (by omega)) ?_
  refine z_lstore_n [(1, .long (lI ((2 ^ (xi (12 + b)).toNat : Nat) : Int))), (0, .ref (q (10 + b)))] dX2_fewestTurns_6 rfl (by decide) rfl ?_
  refine z_ldc2 dX2_fewestTurns_7 m_X2_fewestTurns_C86 ?_
  refine z_aload_n (j := 1) dX2_fewestTurns_10 rfl rfl ?_
  refine z_callVi (i := 10 + b) (ci := 2) (As := []) (rest := [.long (lI 15)]) (c_X2_tea  hq hb hR) dX2_fewestTurns_11 gX2_fewestTurns_X2_tea rfl cd_X2_tea ⟨Nat.le_of_ble_eq_true rfl, Nat.le_of_ble_eq_true rfl⟩ rfl rfl (by omega) (cX_rv hb) rfl rfl (Nat.le_of_ble_eq_true rfl) ⟨Nat.zero_le _, Nat.zero_le _⟩ (fun r_11 g_11 hp_11 => ?_)
  obtain ⟨⟨_, rfl, rfl⟩, rfl⟩ := hp_11
  refine z_iconst dX2_fewestTurns_14 ?_
  refine z_imul dX2_fewestTurns_15 ?_
  refine z_lshl (v := lI ((15 * 2 ^ ((xi (10 + b) - 1) * 4).toNat : Nat) : Int)) dX2_fewestTurns_16 (bl_shl 15 (by omega)) ?_
  refine z_lstore_n [(3, .long (lI ((15 * 2 ^ ((xi (10 + b) - 1) * 4).toNat : Nat) : Int))), (1, .long (lI ((2 ^ (xi (12 + b)).toNat : Nat) : Int))), (0, .ref (q (10 + b)))] dX2_fewestTurns_17 rfl (by decide) rfl ?_
  refine z_iconst dX2_fewestTurns_18 ?_
  refine z_istore [(5, .int (iI 1)), (3, .long (lI ((15 * 2 ^ ((xi (10 + b) - 1) * 4).toNat : Nat) : Int))), (1, .long (lI ((2 ^ (xi (12 + b)).toNat : Nat) : Int))), (0, .ref (q (10 + b)))] dX2_fewestTurns_19 (by decide) rfl ?_
  have hl_21 : ∀ (N_21 : Nat) (u : Int) (mm : Nat), (70 - u).toNat < N_21 → (1 ≤ u ∧ u ≤ 65) → (mm = itM (rvX xi xa b) (2 ^ (xi (12 + b)).toNat) (u - 1).toNat) → (∀ t : Nat, 1 ≤ t → (t : Int) < u → itM (rvX xi xa b) (2 ^ (xi (12 + b)).toNat) t &&& teaM (rvX xi xa b) = 0) → ZMi l D vwCl (tysC cI cJ cZ cR) 31 q ({ frames := 5, cells := 0, slots := 0, locals := 120 } : Room) cX2_fewestTurns 6 RX2 wsX2_fewestTurns (some .int) (fun (r : Int32) (g : Nat → va_E) => (∃ e : Int, (soonX (rvX xi xa b) (xi (12 + b)) e) ∧ r = iI e) ∧ g = (cX cI cJ cZ cR q w d xi xa)) p e s m args below meth c (cX cI cJ cZ cR q w d xi xa) 21 [(5, .int (iI u)), (3, .long (lI ((15 * 2 ^ ((xi (10 + b) - 1) * 4).toNat : Nat) : Int))), (1, .long (lI ((mm : Nat) : Int))), (0, .ref (q (10 + b)))] [] := by
    intro N_21
    induction N_21 with
    | zero => intro u mm hm; exact absurd hm (Nat.not_lt_zero _)
    | succ N_21 ih_21 =>
      intro u mm hm_21 hu hmm hno
      have hlt := itM_lt (R := (rvX xi xa b)) (m0 := 2 ^ (xi (12 + b)).toNat) hnn16 (pow64 (by omega)) (u - 1).toNat
      rw [← hmm] at hlt
      refine z_iload (j := 0) dX2_fewestTurns_21 rfl ?_
      refine z_bipush dX2_fewestTurns_23 (by decide) ?_
      refine z_icmp_gt (tgt := 51) dX2_fewestTurns_25 (by decide) (by omega) (by decide) (fun c_25 => ?_) (fun c_25 => ?_)
      · refine z_bipush dX2_fewestTurns_51 (by decide) ?_
        exact z_iret dX2_fewestTurns_53 ⟨⟨_, (by exact Or.inr ⟨rfl, fun t h1 h2 => hno t h1 (by omega)⟩), rfl⟩, rfl⟩
      · refine z_aload_n (j := 3) dX2_fewestTurns_28 rfl rfl ?_
        refine z_lload_n (j := 2) dX2_fewestTurns_29 rfl rfl ?_
        refine z_callVl (i := 10 + b) (ci := 2) (As := [.long (lI ((mm : Nat) : Int))]) (rest := []) (c_X2_allAfter  hq hb hR (by omega)) dX2_fewestTurns_30 gX2_fewestTurns_X2_allAfter rfl cd_X2_allAfter ⟨Nat.le_of_ble_eq_true rfl, Nat.le_of_ble_eq_true rfl⟩ rfl rfl (by omega) (cX_rv hb) rfl rfl (Nat.le_of_ble_eq_true rfl) ⟨Nat.zero_le _, Nat.zero_le _⟩ (fun r_30 g_30 hp_30 => ?_)
        obtain ⟨⟨_, rfl, rfl⟩, rfl⟩ := hp_30
        refine z_lstore_n [(1, .long (lI ((allM (rvX xi xa b) mm : Nat) : Int))), (5, .int (iI u)), (3, .long (lI ((15 * 2 ^ ((xi (10 + b) - 1) * 4).toNat : Nat) : Int))), (0, .ref (q (10 + b)))] dX2_fewestTurns_33 rfl (by decide) rfl ?_
        refine z_lload_n (j := 0) dX2_fewestTurns_34 rfl rfl ?_
        refine z_lload_n (j := 2) dX2_fewestTurns_35 rfl rfl ?_
        refine z_land (lI ((allM (rvX xi xa b) mm &&& teaM (rvX xi xa b) : Nat) : Int)) dX2_fewestTurns_36 (bl_and (akm_lt hnn16 _) htl) ?_
        refine z_lconst (z := 0) dX2_fewestTurns_37 (by decide) ?_
        refine z_lcmp0 dX2_fewestTurns_38 (Nat.lt_of_le_of_lt Nat.and_le_right htl) (fun r_38 hr_38 => ?_)
        refine z_if_eq (tgt := 45) dX2_fewestTurns_39 (by decide) (by omega) (fun c_39 => ?_) (fun c_39 => ?_)
        · refine z_iinc (j := 1) [(5, .int (iI (u + 1))), (1, .long (lI ((allM (rvX xi xa b) mm : Nat) : Int))), (3, .long (lI ((15 * 2 ^ ((xi (10 + b) - 1) * 4).toNat : Nat) : Int))), (0, .ref (q (10 + b)))] dX2_fewestTurns_45 rfl (by decide) rfl ?_
          refine z_goto (tgt := 21) dX2_fewestTurns_48 (by decide) ?_
          exact z_sub [(5, .int (iI (u + 1))), (3, .long (lI ((15 * 2 ^ ((xi (10 + b) - 1) * 4).toNat : Nat) : Int))), (1, .long (lI ((allM (rvX xi xa b) mm : Nat) : Int))), (0, .ref (q (10 + b)))] [0, 2, 1, 3] rfl (ih_21 (u + 1) (allM (rvX xi xa b) mm) (by omega) (by omega) (by rw [show (u + 1 - 1).toNat = (u - 1).toNat + 1 by omega, itM, ← hmm]) (fun t h1 h2 => by
            by_cases ht : (t : Int) = u
            · rw [show t = (u - 1).toNat + 1 by omega, itM, ← hmm]; omega
            · exact hno t h1 (by omega)))
        · refine z_iload (j := 1) dX2_fewestTurns_42 rfl ?_
          exact z_iret dX2_fewestTurns_44 ⟨⟨_, (by refine Or.inl ⟨hu.1, by omega, ?_, hno⟩; rw [show u.toNat = (u - 1).toNat + 1 by omega, itM, ← hmm]; omega), rfl⟩, rfl⟩
  exact z_sub [(5, .int (iI 1)), (3, .long (lI ((15 * 2 ^ ((xi (10 + b) - 1) * 4).toNat : Nat) : Int))), (1, .long (lI ((2 ^ (xi (12 + b)).toNat : Nat) : Int))), (0, .ref (q (10 + b)))] [0, 1, 2, 3] rfl (hl_21 _ 1 (2 ^ (xi (12 + b)).toNat) (Nat.lt_succ_self _) (by omega) (rfl) (fun t h1 h2 => absurd h2 (by omega)))
theorem m_X7_tenTo_C269 : Cond.constantLong RX7 269 (lI (10)) ∈ wsX7_tenTo := List.mem_of_getElem? (i := 1) (by decide +kernel)
set_option maxHeartbeats 4000000 in
set_option maxRecDepth 100000 in
theorem c_X7_tenTo {l : Launch} {D : va_G} {cI cJ cZ cR : ClassId} {q : Nat → Nat} {w d : Nat} {xi : Nat → Int} {xa : Nat → Nat → Int} (hq : qOk 31 q) {z : Int} (hz : 0 ≤ z ∧ z ≤ 100) : Ctl l D vwCl (tysC cI cJ cZ cR) 31 q yX7_tenTo wsX7_tenTo ({ frames := 0, cells := 0, slots := 0, locals := 0 } : Room) [.int (iI z)] (cX cI cJ cZ cR q w d xi xa) (fun (r : Int64) (g : Nat → va_E) => (∃ e : Int, (e = 10 ^ z.toNat) ∧ r = lI e) ∧ g = (cX cI cJ cZ cR q w d xi xa)) := by
  refine Ctl.of (cc := cX7_tenTo) (nL := 4) (own := RX7) (ret := (some .long)) (by decide) rfl rfl hq (Nat.le_of_ble_eq_true rfl) (fun p e s m args below meth c => ?_)
  refine z_lconst (z := 1) dX7_tenTo_0 (by decide) ?_
  refine z_lstore_n [(1, .long (lI 1)), (0, .int (iI z))] dX7_tenTo_1 rfl (by decide) rfl ?_
  refine z_iconst dX7_tenTo_2 ?_
  refine z_istore_n [(3, .int (iI 0)), (1, .long (lI 1)), (0, .int (iI z))] dX7_tenTo_3 rfl (by decide) rfl ?_
  have hl_4 : ∀ (N_4 : Nat) (u : Int) (ac : Int), (101 - u).toNat < N_4 → (0 ≤ u ∧ u ≤ z) → (ac = 10 ^ u.toNat) → ZMl l D vwCl (tysC cI cJ cZ cR) 31 q ({ frames := 0, cells := 0, slots := 0, locals := 0 } : Room) cX7_tenTo 4 RX7 wsX7_tenTo (some .long) (fun (r : Int64) (g : Nat → va_E) => (∃ e : Int, (e = 10 ^ z.toNat) ∧ r = lI e) ∧ g = (cX cI cJ cZ cR q w d xi xa)) p e s m args below meth c (cX cI cJ cZ cR q w d xi xa) 4 [(3, .int (iI u)), (1, .long (lI ac)), (0, .int (iI z))] [] := by
    intro N_4
    induction N_4 with
    | zero => intro u ac hm; exact absurd hm (Nat.not_lt_zero _)
    | succ N_4 ih_4 =>
      intro u ac hm_4 hu hac
      refine z_iload_n (j := 0) dX7_tenTo_4 rfl rfl ?_
      refine z_iload_n (j := 2) dX7_tenTo_5 rfl rfl ?_
      refine z_icmp_ge (tgt := 21) dX7_tenTo_6 (by decide) (by omega) (by omega) (fun c_6 => ?_) (fun c_6 => ?_)
      · refine z_lload_n (j := 1) dX7_tenTo_21 rfl rfl ?_
        exact z_lret dX7_tenTo_22 ⟨⟨_, (by rw [hac, show u.toNat = z.toNat by omega]), rfl⟩, rfl⟩
      · refine z_lload_n (j := 1) dX7_tenTo_9 rfl rfl ?_
        refine z_ldc2 dX7_tenTo_10 m_X7_tenTo_C269 ?_
        refine z_lmul dX7_tenTo_13 ?_
        refine z_lstore_n [(1, .long (lI (ac * 10))), (3, .int (iI u)), (0, .int (iI z))] dX7_tenTo_14 rfl (by decide) rfl ?_
        refine z_iinc (j := 1) [(3, .int (iI (u + 1))), (1, .long (lI (ac * 10))), (0, .int (iI z))] dX7_tenTo_15 rfl (by decide) rfl ?_
        refine z_goto (tgt := 4) dX7_tenTo_18 (by decide) ?_
        exact z_sub [(3, .int (iI (u + 1))), (1, .long (lI (ac * 10))), (0, .int (iI z))] [0, 1, 2] rfl (ih_4 (u + 1) (ac * 10) (by omega) (by omega) (by rw [stepN hu.1, Int.pow_succ, hac]))
  exact z_sub [(3, .int (iI 0)), (1, .long (lI 1)), (0, .int (iI z))] [0, 1, 2] rfl (hl_4 _ 0 1 (Nat.lt_succ_self _) (by omega) (rfl))
set_option maxHeartbeats 4000000 in
set_option maxRecDepth 100000 in
theorem c_X7_inLeastTerms {l : Launch} {D : va_G} {cI cJ cZ cR : ClassId} {q : Nat → Nat} {w d : Nat} {xi : Nat → Int} {xa : Nat → Nat → Int} (hq : qOk 31 q) {up lo wh : Int} (hup : 0 ≤ up ∧ up < 4611686018427387904) (hlo : 0 < lo ∧ lo < 4611686018427387904) (hwh : -2147483648 ≤ wh ∧ wh < 2147483648) : Ctl l D vwCl (tysC cI cJ cZ cR) 31 q yX7_inLeastTerms wsX7_inLeastTerms ({ frames := 0, cells := 0, slots := 0, locals := 0 } : Room) [.long (lI up), .long (lI lo), .int (iI wh)] (cX cI cJ cZ cR q w d xi xa) (fun (r : Int64) (g : Nat → va_E) => (∃ e : Int, (e = (if wh = 0 then up else lo) / (Int.gcd up lo : Int)) ∧ r = lI e) ∧ g = (cX cI cJ cZ cR q w d xi xa)) := by
  refine Ctl.of (cc := cX7_inLeastTerms) (nL := 12) (own := RX7) (ret := (some .long)) (by decide) rfl rfl hq (Nat.le_of_ble_eq_true rfl) (fun p e s m args below meth c => ?_)
  have hgp : 0 < Int.gcd up lo := Int.gcd_pos_of_ne_zero_right up (by omega)
  refine z_lload_n (j := 0) dX7_inLeastTerms_0 rfl rfl ?_
  refine z_lstore [(5, .long (lI up)), (0, .long (lI up)), (2, .long (lI lo)), (4, .int (iI wh))] dX7_inLeastTerms_1 (by decide) rfl ?_
  refine z_lload_n (j := 2) dX7_inLeastTerms_3 rfl rfl ?_
  refine z_lstore [(7, .long (lI lo)), (5, .long (lI up)), (0, .long (lI up)), (2, .long (lI lo)), (4, .int (iI wh))] dX7_inLeastTerms_4 (by decide) rfl ?_
  refine z_iconst dX7_inLeastTerms_6 ?_
  refine z_istore [(9, .int (iI 0)), (7, .long (lI lo)), (5, .long (lI up)), (0, .long (lI up)), (2, .long (lI lo)), (4, .int (iI wh))] dX7_inLeastTerms_7 (by decide) rfl ?_
  have hl_9 : ∀ (N_9 : Nat) (u : Int) (dv : Int) (rs : Int), (201 - u).toNat < N_9 → (0 ≤ u ∧ u ≤ 200) → (0 ≤ dv ∧ dv < 4611686018427387904) → (0 ≤ rs ∧ rs < 4611686018427387904) → (Int.gcd dv rs = Int.gcd up lo) → (Fin1 (200 - u).toNat dv rs) → ZMl l D vwCl (tysC cI cJ cZ cR) 31 q ({ frames := 0, cells := 0, slots := 0, locals := 0 } : Room) cX7_inLeastTerms 12 RX7 wsX7_inLeastTerms (some .long) (fun (r : Int64) (g : Nat → va_E) => (∃ e : Int, (e = (if wh = 0 then up else lo) / (Int.gcd up lo : Int)) ∧ r = lI e) ∧ g = (cX cI cJ cZ cR q w d xi xa)) p e s m args below meth c (cX cI cJ cZ cR q w d xi xa) 9 [(9, .int (iI u)), (7, .long (lI rs)), (5, .long (lI dv)), (0, .long (lI up)), (2, .long (lI lo)), (4, .int (iI wh))] [] := by
    intro N_9
    induction N_9 with
    | zero => intro u dv rs hm; exact absurd hm (Nat.not_lt_zero _)
    | succ N_9 ih_9 =>
      intro u dv rs hm_9 hu hdv hrs hg hf
      have hf0 : (200 - u).toNat = 0 → rs = 0 := fun h0 => by rw [h0] at hf; exact hf
      refine z_iload (j := 0) dX7_inLeastTerms_9 rfl ?_
      refine z_sipush dX7_inLeastTerms_11 (by decide) ?_
      refine z_icmp_ge (tgt := 45) dX7_inLeastTerms_14 (by decide) (by omega) (by decide) (fun c_14 => ?_) (fun c_14 => ?_)
      · have hz : rs = 0 := by first | omega | exact hf0 (by omega)
        have hdg : (Int.gcd up lo : Int) = dv := by rw [← hg, hz, Int.gcd_zero]; omega
        refine z_iload (j := 5) dX7_inLeastTerms_45 rfl ?_
        refine z_if_ne (tgt := 54) dX7_inLeastTerms_47 (by decide) (by omega) (fun c_47 => ?_) (fun c_47 => ?_)
        · refine z_lload_n (j := 4) dX7_inLeastTerms_54 rfl rfl ?_
          refine z_lstore [(9, .long (lI lo)), (7, .long (lI rs)), (5, .long (lI dv)), (0, .long (lI up)), (2, .long (lI lo)), (4, .int (iI wh))] dX7_inLeastTerms_55 (by decide) rfl ?_
          refine z_lload (j := 2) dX7_inLeastTerms_57 rfl ?_
          refine z_lconst (z := 1) dX7_inLeastTerms_59 (by decide) ?_
          refine z_lcmp dX7_inLeastTerms_60 (by omega) (by decide) (fun r_60 hr_60 => ?_)
          refine z_if_le (tgt := 72) dX7_inLeastTerms_61 (by decide) (by omega) (fun c_61 => ?_) (fun c_61 => ?_)
          · refine z_lload (j := 0) dX7_inLeastTerms_72 rfl ?_
            exact z_lret dX7_inLeastTerms_74 ⟨⟨_, (by first | (rw [if_pos (by omega), hdg]; done) | (rw [if_neg (by omega), hdg]; done) | (rw [if_pos (by omega), hdg, show dv = 1 by omega, Int.ediv_one]; done) | (rw [if_neg (by omega), hdg, show dv = 1 by omega, Int.ediv_one]; done)), rfl⟩, rfl⟩
          · refine z_lload (j := 0) dX7_inLeastTerms_64 rfl ?_
            refine z_lload (j := 2) dX7_inLeastTerms_66 rfl ?_
            refine z_ldiv dX7_inLeastTerms_68 (by omega) (by omega) ?_
            refine z_goto (tgt := 74) dX7_inLeastTerms_69 (by decide) ?_
            exact z_lret dX7_inLeastTerms_74 ⟨⟨_, (by first | (rw [if_pos (by omega), hdg]; done) | (rw [if_neg (by omega), hdg]; done) | (rw [if_pos (by omega), hdg, show dv = 1 by omega, Int.ediv_one]; done) | (rw [if_neg (by omega), hdg, show dv = 1 by omega, Int.ediv_one]; done)), rfl⟩, rfl⟩
        · refine z_lload_n (j := 3) dX7_inLeastTerms_50 rfl rfl ?_
          refine z_goto (tgt := 55) dX7_inLeastTerms_51 (by decide) ?_
          refine z_lstore [(9, .long (lI up)), (7, .long (lI rs)), (5, .long (lI dv)), (0, .long (lI up)), (2, .long (lI lo)), (4, .int (iI wh))] dX7_inLeastTerms_55 (by decide) rfl ?_
          refine z_lload (j := 2) dX7_inLeastTerms_57 rfl ?_
          refine z_lconst (z := 1) dX7_inLeastTerms_59 (by decide) ?_
          refine z_lcmp dX7_inLeastTerms_60 (by omega) (by decide) (fun r_60 hr_60 => ?_)
          refine z_if_le (tgt := 72) dX7_inLeastTerms_61 (by decide) (by omega) (fun c_61 => ?_) (fun c_61 => ?_)
          · refine z_lload (j := 0) dX7_inLeastTerms_72 rfl ?_
            exact z_lret dX7_inLeastTerms_74 ⟨⟨_, (by first | (rw [if_pos (by omega), hdg]; done) | (rw [if_neg (by omega), hdg]; done) | (rw [if_pos (by omega), hdg, show dv = 1 by omega, Int.ediv_one]; done) | (rw [if_neg (by omega), hdg, show dv = 1 by omega, Int.ediv_one]; done)), rfl⟩, rfl⟩
          · refine z_lload (j := 0) dX7_inLeastTerms_64 rfl ?_
            refine z_lload (j := 2) dX7_inLeastTerms_66 rfl ?_
            refine z_ldiv dX7_inLeastTerms_68 (by omega) (by omega) ?_
            refine z_goto (tgt := 74) dX7_inLeastTerms_69 (by decide) ?_
            exact z_lret dX7_inLeastTerms_74 ⟨⟨_, (by first | (rw [if_pos (by omega), hdg]; done) | (rw [if_neg (by omega), hdg]; done) | (rw [if_pos (by omega), hdg, show dv = 1 by omega, Int.ediv_one]; done) | (rw [if_neg (by omega), hdg, show dv = 1 by omega, Int.ediv_one]; done)), rfl⟩, rfl⟩
      · refine z_lload (j := 1) dX7_inLeastTerms_17 rfl ?_
        refine z_lconst (z := 0) dX7_inLeastTerms_19 (by decide) ?_
        refine z_lcmp dX7_inLeastTerms_20 (by omega) (by decide) (fun r_20 hr_20 => ?_)
        refine z_if_eq (tgt := 45) dX7_inLeastTerms_21 (by decide) (by omega) (fun c_21 => ?_) (fun c_21 => ?_)
        · have hz : rs = 0 := by first | omega | exact hf0 (by omega)
          have hdg : (Int.gcd up lo : Int) = dv := by rw [← hg, hz, Int.gcd_zero]; omega
          refine z_iload (j := 5) dX7_inLeastTerms_45 rfl ?_
          refine z_if_ne (tgt := 54) dX7_inLeastTerms_47 (by decide) (by omega) (fun c_47 => ?_) (fun c_47 => ?_)
          · refine z_lload_n (j := 4) dX7_inLeastTerms_54 rfl rfl ?_
            refine z_lstore [(9, .long (lI lo)), (7, .long (lI rs)), (5, .long (lI dv)), (0, .long (lI up)), (2, .long (lI lo)), (4, .int (iI wh))] dX7_inLeastTerms_55 (by decide) rfl ?_
            refine z_lload (j := 2) dX7_inLeastTerms_57 rfl ?_
            refine z_lconst (z := 1) dX7_inLeastTerms_59 (by decide) ?_
            refine z_lcmp dX7_inLeastTerms_60 (by omega) (by decide) (fun r_60 hr_60 => ?_)
            refine z_if_le (tgt := 72) dX7_inLeastTerms_61 (by decide) (by omega) (fun c_61 => ?_) (fun c_61 => ?_)
            · refine z_lload (j := 0) dX7_inLeastTerms_72 rfl ?_
              exact z_lret dX7_inLeastTerms_74 ⟨⟨_, (by first | (rw [if_pos (by omega), hdg]; done) | (rw [if_neg (by omega), hdg]; done) | (rw [if_pos (by omega), hdg, show dv = 1 by omega, Int.ediv_one]; done) | (rw [if_neg (by omega), hdg, show dv = 1 by omega, Int.ediv_one]; done)), rfl⟩, rfl⟩
            · refine z_lload (j := 0) dX7_inLeastTerms_64 rfl ?_
              refine z_lload (j := 2) dX7_inLeastTerms_66 rfl ?_
              refine z_ldiv dX7_inLeastTerms_68 (by omega) (by omega) ?_
              refine z_goto (tgt := 74) dX7_inLeastTerms_69 (by decide) ?_
              exact z_lret dX7_inLeastTerms_74 ⟨⟨_, (by first | (rw [if_pos (by omega), hdg]; done) | (rw [if_neg (by omega), hdg]; done) | (rw [if_pos (by omega), hdg, show dv = 1 by omega, Int.ediv_one]; done) | (rw [if_neg (by omega), hdg, show dv = 1 by omega, Int.ediv_one]; done)), rfl⟩, rfl⟩
          · refine z_lload_n (j := 3) dX7_inLeastTerms_50 rfl rfl ?_
            refine z_goto (tgt := 55) dX7_inLeastTerms_51 (by decide) ?_
            refine z_lstore [(9, .long (lI up)), (7, .long (lI rs)), (5, .long (lI dv)), (0, .long (lI up)), (2, .long (lI lo)), (4, .int (iI wh))] dX7_inLeastTerms_55 (by decide) rfl ?_
            refine z_lload (j := 2) dX7_inLeastTerms_57 rfl ?_
            refine z_lconst (z := 1) dX7_inLeastTerms_59 (by decide) ?_
            refine z_lcmp dX7_inLeastTerms_60 (by omega) (by decide) (fun r_60 hr_60 => ?_)
            refine z_if_le (tgt := 72) dX7_inLeastTerms_61 (by decide) (by omega) (fun c_61 => ?_) (fun c_61 => ?_)
            · refine z_lload (j := 0) dX7_inLeastTerms_72 rfl ?_
              exact z_lret dX7_inLeastTerms_74 ⟨⟨_, (by first | (rw [if_pos (by omega), hdg]; done) | (rw [if_neg (by omega), hdg]; done) | (rw [if_pos (by omega), hdg, show dv = 1 by omega, Int.ediv_one]; done) | (rw [if_neg (by omega), hdg, show dv = 1 by omega, Int.ediv_one]; done)), rfl⟩, rfl⟩
            · refine z_lload (j := 0) dX7_inLeastTerms_64 rfl ?_
              refine z_lload (j := 2) dX7_inLeastTerms_66 rfl ?_
              refine z_ldiv dX7_inLeastTerms_68 (by omega) (by omega) ?_
              refine z_goto (tgt := 74) dX7_inLeastTerms_69 (by decide) ?_
              exact z_lret dX7_inLeastTerms_74 ⟨⟨_, (by first | (rw [if_pos (by omega), hdg]; done) | (rw [if_neg (by omega), hdg]; done) | (rw [if_pos (by omega), hdg, show dv = 1 by omega, Int.ediv_one]; done) | (rw [if_neg (by omega), hdg, show dv = 1 by omega, Int.ediv_one]; done)), rfl⟩, rfl⟩
        · refine z_lload (j := 2) dX7_inLeastTerms_24 rfl ?_
          refine z_lload (j := 1) dX7_inLeastTerms_26 rfl ?_
          refine z_lrem dX7_inLeastTerms_28 (by omega) (by omega) ?_
          refine z_lstore [(10, .long (lI (dv % rs))), (9, .int (iI u)), (7, .long (lI rs)), (5, .long (lI dv)), (0, .long (lI up)), (2, .long (lI lo)), (4, .int (iI wh))] dX7_inLeastTerms_29 (by decide) rfl ?_
          refine z_lload (j := 2) dX7_inLeastTerms_31 rfl ?_
          refine z_lstore [(5, .long (lI rs)), (10, .long (lI (dv % rs))), (9, .int (iI u)), (7, .long (lI rs)), (0, .long (lI up)), (2, .long (lI lo)), (4, .int (iI wh))] dX7_inLeastTerms_33 (by decide) rfl ?_
          refine z_lload (j := 1) dX7_inLeastTerms_35 rfl ?_
          refine z_lstore [(7, .long (lI (dv % rs))), (5, .long (lI rs)), (10, .long (lI (dv % rs))), (9, .int (iI u)), (0, .long (lI up)), (2, .long (lI lo)), (4, .int (iI wh))] dX7_inLeastTerms_37 (by decide) rfl ?_
          refine z_iinc (j := 3) [(9, .int (iI (u + 1))), (7, .long (lI (dv % rs))), (5, .long (lI rs)), (10, .long (lI (dv % rs))), (0, .long (lI up)), (2, .long (lI lo)), (4, .int (iI wh))] dX7_inLeastTerms_39 rfl (by decide) rfl ?_
          refine z_goto (tgt := 9) dX7_inLeastTerms_42 (by decide) ?_
          exact z_sub [(9, .int (iI (u + 1))), (7, .long (lI (dv % rs))), (5, .long (lI rs)), (0, .long (lI up)), (2, .long (lI lo)), (4, .int (iI wh))] [0, 1, 2, 4, 5, 6] rfl (ih_9 (u + 1) rs (dv % rs) (by omega) (by omega) (⟨hrs.1, hrs.2⟩) (by have h1 := Int.emod_nonneg dv (show rs ≠ 0 by omega); have h2 := Int.emod_lt_of_pos dv (show 0 < rs by omega); omega) (by rw [gcd_step dv rs (by omega)]; exact hg) (by
            rw [show (200 - u).toNat = (200 - (u + 1)).toNat + 1 by omega] at hf
            exact hf.elim (fun h => absurd h (by omega)) id))
  exact z_sub [(9, .int (iI 0)), (7, .long (lI lo)), (5, .long (lI up)), (0, .long (lI up)), (2, .long (lI lo)), (4, .int (iI wh))] [0, 1, 2, 3, 4, 5] rfl (hl_9 _ 0 up lo (Nat.lt_succ_self _) (by omega) (by omega) (by omega) (rfl) (Fin1_le (Fin1_all 62 up lo hup.1 (by omega) (by omega)) 76))
