theorem m_X4_forget_f15 : Cond.fieldLink RX4 15 "PoleBehind$SureTable" "stands" "Z" ∈ wsX4_forget := List.mem_of_getElem? (i := 1) rfl
theorem in_X4_forget_X4 : ∀ w ∈ wsX40, w ∈ wsX4_forget := fun _ h => List.mem_cons_of_mem _ (List.mem_append_right _ h)
set_option maxHeartbeats 400000 in
set_option maxRecDepth 100000 in
theorem c_X4_forget {l : Launch} {D : va_G} {cI cJ cZ cR : ClassId} {q : Nat → Nat} {w d : Nat} {xi : Nat → Int} {xa : Nat → Nat → Int} (hq : qOk 31 q)   : Ctv l D vwCl (tysC cI cJ cZ cR) 31 q yX4_forget wsX4_forget ({ frames := 0, cells := 0, slots := 0, locals := 0 } : Room) [.ref (q 27)] (cX cI cJ cZ cR q w d xi xa) (fun (g : Nat → va_E) => ∃ (xi' : Nat → Int), (xi' = va_up xi 19 0) ∧ g = (cX cI cJ cZ cR q w d xi' xa)) := by
  refine Ctv.of (cc := cX4_forget) (nL := 1) (own := RX4) (ret := none) (by decide) rfl rfl hq (Nat.le_of_ble_eq_true rfl) (fun p e s m args below meth c => ?_)
  refine z_aload_n (j := 0) dX4_forget_0 rfl rfl ?_
  refine z_iconst dX4_forget_1 ?_
  refine z_putf (i := 27) (ci := 4) (k := 1) (cX cI cJ cZ cR q w d (va_up xi 19 0) xa) dX4_forget_2 m_X4_forget_f15 in_X4_forget_X4 rfl (by decide) rfl (by omega) rfl tyX4_ok nmX4 rfl rfl rfl (Nat.le_of_ble_eq_true rfl) lx_stands ?_
  exact z_vret dX4_forget_5 ⟨_, (rfl), rfl⟩
theorem m_X4_bestOf_f9 : Cond.fieldLink RX4 9 "PoleBehind$SureTable" "best" "[J" ∈ wsX4_bestOf := List.mem_of_getElem? (i := 1) rfl
theorem in_X4_bestOf_X4 : ∀ w ∈ wsX40, w ∈ wsX4_bestOf := fun _ h => List.mem_cons_of_mem _ (List.mem_append_right _ h)
set_option maxHeartbeats 400000 in
set_option maxRecDepth 100000 in
theorem c_X4_bestOf {l : Launch} {D : va_G} {cI cJ cZ cR : ClassId} {q : Nat → Nat} {w d : Nat} {xi : Nat → Int} {xa : Nat → Nat → Int} (hq : qOk 31 q) {t z : Int} (ht : -100 ≤ t ∧ t ≤ 100) (hz : -100 ≤ z ∧ z ≤ 1000) : Ctl l D vwCl (tysC cI cJ cZ cR) 31 q yX4_bestOf wsX4_bestOf ({ frames := 0, cells := 0, slots := 0, locals := 0 } : Room) [.ref (q 27), .int (iI t), .int (iI z)] (cX cI cJ cZ cR q w d xi xa) (fun (r : Int64) (g : Nat → va_E) => (∃ e : Int, (e = if 0 ≤ t ∧ 0 ≤ z ∧ z < 64 ∧ t * 64 + z < 832 then xa 17 (t * 64 + z).toNat else 0) ∧ r = lI e) ∧ g = (cX cI cJ cZ cR q w d xi xa)) := by
  refine Ctl.of (cc := cX4_bestOf) (nL := 5) (own := RX4) (ret := (some .long)) (by decide) rfl rfl hq (Nat.le_of_ble_eq_true rfl) (fun p e s m args below meth c => ?_)
  refine z_iload_n (j := 1) dX4_bestOf_0 rfl rfl ?_
  refine z_bipush dX4_bestOf_1 (by decide) ?_
  refine z_imul dX4_bestOf_3 ?_
  refine z_iload_n (j := 2) dX4_bestOf_4 rfl rfl ?_
  refine z_iadd dX4_bestOf_5 ?_
  refine z_istore_n [(3, .int (iI ((t * 64) + z))), (0, .ref (q 27)), (1, .int (iI t)), (2, .int (iI z))] dX4_bestOf_6 rfl (by decide) rfl ?_
  refine z_iload_n (j := 2) dX4_bestOf_7 rfl rfl ?_
  refine z_if_lt (tgt := 34) dX4_bestOf_8 (by decide) (by omega) (fun c_8 => ?_) (fun c_8 => ?_)
  · refine z_iconst dX4_bestOf_34 ?_
    refine z_istore [(4, .int (iI 0)), (3, .int (iI ((t * 64) + z))), (0, .ref (q 27)), (1, .int (iI t)), (2, .int (iI z))] dX4_bestOf_35 (by decide) rfl ?_
    refine z_iload (j := 0) dX4_bestOf_37 rfl ?_
    refine z_if_eq (tgt := 51) dX4_bestOf_39 (by decide) (by decide) (fun _ => ?_) (fun h => absurd h (by decide))
    refine z_lconst (z := 0) dX4_bestOf_51 (by decide) ?_
    exact z_lret dX4_bestOf_52 ⟨⟨_, (by first | rw [if_pos ⟨by omega, by omega, by omega, by omega⟩] | rw [if_neg (by omega)]), rfl⟩, rfl⟩
  · refine z_iload_n (j := 3) dX4_bestOf_11 rfl rfl ?_
    refine z_if_lt (tgt := 34) dX4_bestOf_12 (by decide) (by omega) (fun c_12 => ?_) (fun c_12 => ?_)
    · refine z_iconst dX4_bestOf_34 ?_
      refine z_istore [(4, .int (iI 0)), (3, .int (iI ((t * 64) + z))), (0, .ref (q 27)), (1, .int (iI t)), (2, .int (iI z))] dX4_bestOf_35 (by decide) rfl ?_
      refine z_iload (j := 0) dX4_bestOf_37 rfl ?_
      refine z_if_eq (tgt := 51) dX4_bestOf_39 (by decide) (by decide) (fun _ => ?_) (fun h => absurd h (by decide))
      refine z_lconst (z := 0) dX4_bestOf_51 (by decide) ?_
      exact z_lret dX4_bestOf_52 ⟨⟨_, (by first | rw [if_pos ⟨by omega, by omega, by omega, by omega⟩] | rw [if_neg (by omega)]), rfl⟩, rfl⟩
    · refine z_iload_n (j := 3) dX4_bestOf_15 rfl rfl ?_
      refine z_bipush dX4_bestOf_16 (by decide) ?_
      refine z_icmp_ge (tgt := 34) dX4_bestOf_18 (by decide) (by omega) (by decide) (fun c_18 => ?_) (fun c_18 => ?_)
      · refine z_iconst dX4_bestOf_34 ?_
        refine z_istore [(4, .int (iI 0)), (3, .int (iI ((t * 64) + z))), (0, .ref (q 27)), (1, .int (iI t)), (2, .int (iI z))] dX4_bestOf_35 (by decide) rfl ?_
        refine z_iload (j := 0) dX4_bestOf_37 rfl ?_
        refine z_if_eq (tgt := 51) dX4_bestOf_39 (by decide) (by decide) (fun _ => ?_) (fun h => absurd h (by decide))
        refine z_lconst (z := 0) dX4_bestOf_51 (by decide) ?_
        exact z_lret dX4_bestOf_52 ⟨⟨_, (by first | rw [if_pos ⟨by omega, by omega, by omega, by omega⟩] | rw [if_neg (by omega)]), rfl⟩, rfl⟩
      · refine z_iload_n (j := 0) dX4_bestOf_21 rfl rfl ?_
        refine z_aload_n (j := 1) dX4_bestOf_22 rfl rfl ?_
        refine z_getf (i := 27) (ci := 4) (k := 0) (v := .ref (q 28)) dX4_bestOf_23 m_X4_bestOf_f9 in_X4_bestOf_X4 rfl (by decide) rfl (by omega) rfl rfl ?_
        refine z_alen (i := 28) 1 dX4_bestOf_26 (by omega) rfl rfl ?_
        refine z_icmp_ge (tgt := 34) dX4_bestOf_27 (by decide) (by omega) (by omega) (fun c_27 => ?_) (fun c_27 => ?_)
        · refine z_iconst dX4_bestOf_34 ?_
          refine z_istore [(4, .int (iI 0)), (3, .int (iI ((t * 64) + z))), (0, .ref (q 27)), (1, .int (iI t)), (2, .int (iI z))] dX4_bestOf_35 (by decide) rfl ?_
          refine z_iload (j := 0) dX4_bestOf_37 rfl ?_
          refine z_if_eq (tgt := 51) dX4_bestOf_39 (by decide) (by decide) (fun _ => ?_) (fun h => absurd h (by decide))
          refine z_lconst (z := 0) dX4_bestOf_51 (by decide) ?_
          exact z_lret dX4_bestOf_52 ⟨⟨_, (by first | rw [if_pos ⟨by omega, by omega, by omega, by omega⟩] | rw [if_neg (by omega)]), rfl⟩, rfl⟩
        · refine z_iconst dX4_bestOf_30 ?_
          refine z_goto (tgt := 35) dX4_bestOf_31 (by decide) ?_
          refine z_istore [(4, .int (iI 1)), (3, .int (iI ((t * 64) + z))), (0, .ref (q 27)), (1, .int (iI t)), (2, .int (iI z))] dX4_bestOf_35 (by decide) rfl ?_
          refine z_iload (j := 0) dX4_bestOf_37 rfl ?_
          refine z_if_eq (tgt := 51) dX4_bestOf_39 (by decide) (by decide) (fun h => absurd h (by decide)) (fun _ => ?_)
          refine z_aload_n (j := 2) dX4_bestOf_42 rfl rfl ?_
          refine z_getf (i := 27) (ci := 4) (k := 0) (v := .ref (q 28)) dX4_bestOf_43 m_X4_bestOf_f9 in_X4_bestOf_X4 rfl (by decide) rfl (by omega) rfl rfl ?_
          refine z_iload_n (j := 1) dX4_bestOf_46 rfl rfl ?_
          refine z_lald (i := 28) (g := xa 17) 1 dX4_bestOf_47 (by omega) rfl rfl (by omega) (by omega) (by omega) ?_
          refine z_goto (tgt := 52) dX4_bestOf_48 (by decide) ?_
          exact z_lret dX4_bestOf_52 ⟨⟨_, (by first | rw [if_pos ⟨by omega, by omega, by omega, by omega⟩] | rw [if_neg (by omega)]), rfl⟩, rfl⟩
theorem nwm_X4_68 : Cond.methodLinkNest RX4 68 yX7_cellOf "PoleBehind" ∈ NWl := List.mem_of_getElem? (i := 20) rfl
theorem m_X4_bestByAct_st_X7_cellOf : Cond.static yX7_cellOf ∈ wsX4_bestByAct := List.mem_of_getElem? (i := 10) rfl
theorem m_X4_bestByAct_in_X7_cellOf : Cond.initialized yX7_cellOf.cls ∈ wsX4_bestByAct := List.mem_of_getElem? (i := 11) rfl
theorem nwm_X4_75 : Cond.methodLinkNest RX4 75 yX7_dryTenths "PoleBehind" ∈ NWl := List.mem_of_getElem? (i := 21) rfl
theorem m_X4_bestByAct_st_X7_dryTenths : Cond.static yX7_dryTenths ∈ wsX4_bestByAct := List.mem_of_getElem? (i := 58) rfl
theorem m_X4_bestByAct_in_X7_dryTenths : Cond.initialized yX7_dryTenths.cls ∈ wsX4_bestByAct := List.mem_of_getElem? (i := 11) rfl
theorem cd_X4_bestOf : yX4_bestOf.cls = RX4 ∧ yX4_bestOf.cls ≠ "java/lang/invoke/MethodHandle" ∧ yX4_bestOf.cls ≠ "java/lang/invoke/VarHandle" ∧ (parseMethodDescriptor yX4_bestOf.desc).map (fun d => d.parameters.length) = some 2 := ⟨rfl, by decide +kernel, by decide +kernel, by decide +kernel⟩
set_option maxHeartbeats 400000 in
set_option maxRecDepth 100000 in
theorem c_X4_bestByAct {l : Launch} {D : va_G} {cI cJ cZ cR : ClassId} {q : Nat → Nat} {w d : Nat} {xi : Nat → Int} {xa : Nat → Nat → Int} (hq : qOk 31 q) {b : Nat} {z act t : Int} (hb : b < 2) (hR : RvOk xi xa b) (hz : 0 ≤ z ∧ z < 4 * xi (10 + b)) (ha : 0 ≤ act ∧ act ≤ 3) (ht : 1 ≤ t ∧ t ≤ 12) (hT : ∀ s : Nat, (s : Int) < 4 * xi (10 + b) → xa 17 (64 * (t.toNat - 1) + s) = bestF (rvX xi xa b) (t.toNat - 1) (s : Int)) : Ctl l D vwCl (tysC cI cJ cZ cR) 31 q yX4_bestByAct wsX4_bestByAct ({ frames := 3, cells := 0, slots := 0, locals := 70 } : Room) [.ref (q 27), .ref (q (10 + b)), .int (iI z), .int (iI act), .int (iI t)] (cX cI cJ cZ cR q w d xi xa) (fun (r : Int64) (g : Nat → va_E) => (∃ e : Int, (e = byA (rvX xi xa b) (bestF (rvX xi xa b) (t.toNat - 1)) act z) ∧ r = lI e) ∧ g = (cX cI cJ cZ cR q w d xi xa)) := by
  refine Ctl.of (cc := cX4_bestByAct) (nL := 6) (own := RX4) (ret := (some .long)) (by decide) rfl rfl hq (Nat.le_of_ble_eq_true rfl) (fun p e s m args below meth c => ?_)
  obtain ⟨hN, hP, hK, hM, hD, hB⟩ := id hR
  have hRM := RvM_of hR
  have hnn : rN (rvX xi xa b) = xi (10 + b) := rfl
  have har := aftA_rng (R := (rvX xi xa b)) (act := act) hRM.1 hz.1
  have hhr := hold_rng (hRM.2 (z / 4).toNat)
  refine z_aload_n (j := 1) dX4_bestByAct_0 rfl rfl ?_
  refine z_iload_n (j := 2) dX4_bestByAct_1 rfl rfl ?_
  refine z_iload_n (j := 3) dX4_bestByAct_2 rfl rfl ?_
  refine z_callVi (i := 10 + b) (ci := 2) (As := [.int (iI z), .int (iI act)]) (rest := []) (c_X2_after  hq hb hR (by omega) (by omega)) dX4_bestByAct_3 gX4_bestByAct_X2_after rfl cd_X2_after ⟨Nat.le_of_ble_eq_true rfl, Nat.le_of_ble_eq_true rfl⟩ rfl rfl (by omega) (cX_rv hb) rfl rfl (Nat.le_of_ble_eq_true rfl) ⟨Nat.zero_le _, Nat.zero_le _⟩ (fun r_3 g_3 hp_3 => ?_)
  obtain ⟨⟨_, rfl, rfl⟩, rfl⟩ := hp_3
  refine z_istore [(5, .int (iI (aftA (rvX xi xa b) act z))), (0, .ref (q 27)), (1, .ref (q (10 + b))), (2, .int (iI z)), (3, .int (iI act)), (4, .int (iI t))] dX4_bestByAct_6 (by decide) rfl ?_
  refine z_iload (j := 0) dX4_bestByAct_8 rfl ?_
  refine z_iconst dX4_bestByAct_10 ?_
  refine z_icmp_ne (tgt := 16) dX4_bestByAct_11 (by decide) (by omega) (by decide) (fun c_11 => ?_) (fun c_11 => ?_)
  · refine z_iload_n (j := 4) dX4_bestByAct_16 rfl rfl ?_
    refine z_aload_n (j := 2) dX4_bestByAct_17 rfl rfl ?_
    refine z_iload_n (j := 3) dX4_bestByAct_18 rfl rfl ?_
    refine z_callNi (As := [.int (iI z)]) (rest := [.ref (q (10 + b)), .int (iI act)]) (c_X7_cellOf  hq (by omega)) dX4_bestByAct_19 gX4_bestByAct_X7_cellOf_n68 nwm_X4_68 m_X4_bestByAct_st_X7_cellOf m_X4_bestByAct_in_X7_cellOf rfl cd_X7_cellOf ⟨Nat.le_of_ble_eq_true rfl, Nat.le_of_ble_eq_true rfl⟩ rfl rfl rfl (Nat.le_of_ble_eq_true rfl) ⟨Nat.zero_le _, Nat.zero_le _⟩ (fun r_19 g_19 hp_19 => ?_)
    obtain ⟨⟨_, rfl, rfl⟩, rfl⟩ := hp_19
    refine z_callVi (i := 10 + b) (ci := 2) (As := [.int (iI (z / 4))]) (rest := [.int (iI act)]) (c_X2_holdsIn  hq hb hR (by omega)) dX4_bestByAct_22 gX4_bestByAct_X2_holdsIn rfl cd_X2_holdsIn ⟨Nat.le_of_ble_eq_true rfl, Nat.le_of_ble_eq_true rfl⟩ rfl rfl (by omega) (cX_rv hb) rfl rfl (Nat.le_of_ble_eq_true rfl) ⟨Nat.zero_le _, Nat.zero_le _⟩ (fun r_22 g_22 hp_22 => ?_)
    obtain ⟨⟨_, rfl, rfl⟩, rfl⟩ := hp_22
    refine z_callNi (As := [.int (iI act), .int (iI (hold (rvX xi xa b) (z / 4).toNat))]) (rest := []) (c_X7_dryTenths  hq (by omega) (by omega)) dX4_bestByAct_25 gX4_bestByAct_X7_dryTenths_n75 nwm_X4_75 m_X4_bestByAct_st_X7_dryTenths m_X4_bestByAct_in_X7_dryTenths rfl cd_X7_dryTenths ⟨Nat.le_of_ble_eq_true rfl, Nat.le_of_ble_eq_true rfl⟩ rfl rfl rfl (Nat.le_of_ble_eq_true rfl) ⟨Nat.zero_le _, Nat.zero_le _⟩ (fun r_25 g_25 hp_25 => ?_)
    obtain ⟨⟨e_25, he_25, rfl⟩, rfl⟩ := hp_25
    refine z_i2l dX4_bestByAct_28 (by omega) ?_
    refine z_aload_n (j := 1) dX4_bestByAct_29 rfl rfl ?_
    refine z_iload (j := 5) dX4_bestByAct_30 rfl ?_
    refine z_iconst dX4_bestByAct_32 ?_
    refine z_isub dX4_bestByAct_33 ?_
    refine z_iload (j := 0) dX4_bestByAct_34 rfl ?_
    refine z_callVl (i := 27) (ci := 4) (As := [.int (iI (t - 1)), .int (iI (aftA (rvX xi xa b) act z))]) (rest := [.long (lI e_25)]) (c_X4_bestOf  hq (by omega) (by omega)) dX4_bestByAct_36 gX4_bestByAct_X4_bestOf rfl cd_X4_bestOf ⟨Nat.le_of_ble_eq_true rfl, Nat.le_of_ble_eq_true rfl⟩ rfl rfl (by omega) rfl rfl rfl (Nat.le_of_ble_eq_true rfl) ⟨Nat.zero_le _, Nat.zero_le _⟩ (fun r_36 g_36 hp_36 => ?_)
    obtain ⟨⟨e_36, he_36, rfl⟩, rfl⟩ := hp_36
    refine z_lmul dX4_bestByAct_39 ?_
    exact z_lret dX4_bestByAct_40 ⟨⟨_, (by
      rw [byA, if_neg c_11]
      have h36 := he_36
      rw [if_pos ⟨by omega, by omega, by omega, by omega⟩, show ((t - 1) * 64 + aftA (rvX xi xa b) act z).toNat = 64 * (t.toNat - 1) + (aftA (rvX xi xa b) act z).toNat by omega, hT _ (by omega), show (((aftA (rvX xi xa b) act z).toNat : Nat) : Int) = aftA (rvX xi xa b) act z by omega] at h36
      rw [h36, he_25]
      rfl), rfl⟩, rfl⟩
  · refine z_lconst (z := 0) dX4_bestByAct_14 (by decide) ?_
    exact z_lret dX4_bestByAct_15 ⟨⟨_, (by rw [byA, if_pos (by omega)]), rfl⟩, rfl⟩
theorem cd_X4_bestByAct : yX4_bestByAct.cls = RX4 ∧ yX4_bestByAct.cls ≠ "java/lang/invoke/MethodHandle" ∧ yX4_bestByAct.cls ≠ "java/lang/invoke/VarHandle" ∧ (parseMethodDescriptor yX4_bestByAct.desc).map (fun d => d.parameters.length) = some 4 := ⟨rfl, by decide +kernel, by decide +kernel, by decide +kernel⟩
theorem m_X4_bestByAnyAct_lml62 : Cond.methodLink RX4 62 Lib.MathLoose.max_long.x ∈ wsX4_bestByAnyAct := List.mem_of_getElem? (i := 1) rfl
theorem m_X4_bestByAnyAct_sml : Cond.static Lib.MathLoose.max_long.x ∈ wsX4_bestByAnyAct := List.mem_of_getElem? (i := 2) rfl
theorem m_X4_bestByAnyAct_iml : Cond.initialized "java/lang/Math" ∈ wsX4_bestByAnyAct := List.mem_of_getElem? (i := 3) rfl
theorem m_X4_bestByAnyAct_kml : Cond.code Lib.MathLoose.max_long.x Lib.MathLoose.max_long.code 4 (some .long) ∈ wsX4_bestByAnyAct := List.mem_of_getElem? (i := 4) rfl
set_option maxHeartbeats 400000 in
set_option maxRecDepth 100000 in
theorem c_X4_bestByAnyAct {l : Launch} {D : va_G} {cI cJ cZ cR : ClassId} {q : Nat → Nat} {w d : Nat} {xi : Nat → Int} {xa : Nat → Nat → Int} (hq : qOk 31 q) {b : Nat} {z t : Int} (hb : b < 2) (hR : RvOk xi xa b) (hz : 0 ≤ z ∧ z < 4 * xi (10 + b)) (ht : 1 ≤ t ∧ t ≤ 12) (hT : ∀ s : Nat, (s : Int) < 4 * xi (10 + b) → xa 17 (64 * (t.toNat - 1) + s) = bestF (rvX xi xa b) (t.toNat - 1) (s : Int)) : Ctl l D vwCl (tysC cI cJ cZ cR) 31 q yX4_bestByAnyAct wsX4_bestByAnyAct ({ frames := 4, cells := 0, slots := 0, locals := 95 } : Room) [.ref (q 27), .ref (q (10 + b)), .int (iI z), .int (iI t)] (cX cI cJ cZ cR q w d xi xa) (fun (r : Int64) (g : Nat → va_E) => (∃ e : Int, (e = bestF (rvX xi xa b) t.toNat z) ∧ r = lI e) ∧ g = (cX cI cJ cZ cR q w d xi xa)) := by
  refine Ctl.of (cc := cX4_bestByAnyAct) (nL := 7) (own := RX4) (ret := (some .long)) (by decide) rfl rfl hq (Nat.le_of_ble_eq_true rfl) (fun p e s m args below meth c => ?_)
  obtain ⟨hN, hP, hK, hM, hD, hB⟩ := id hR
  have hRM := RvM_of hR
  have hnn : rN (rvX xi xa b) = xi (10 + b) := rfl
  have hU0 : (0 : Int) ≤ 10 ^ (t.toNat - 1) := Int.pow_nonneg (by omega)
  have hU1 : (10 : Int) ^ (t.toNat - 1) ≤ 10 ^ 11 := pow10_leN (by omega)
  have hU2 : (10 : Int) ^ 11 = 100000000000 := by decide
  have hBr : ∀ s : Int, 0 ≤ s → 0 ≤ bestF (rvX xi xa b) (t.toNat - 1) s ∧ bestF (rvX xi xa b) (t.toNat - 1) s ≤ 10 ^ (t.toNat - 1) := fun s hs => bestF_rng hRM _ s hs
  refine z_lconst (z := 0) dX4_bestByAnyAct_0 (by decide) ?_
  refine z_lstore [(4, .long (lI 0)), (0, .ref (q 27)), (1, .ref (q (10 + b))), (2, .int (iI z)), (3, .int (iI t))] dX4_bestByAnyAct_1 (by decide) rfl ?_
  refine z_iconst dX4_bestByAnyAct_3 ?_
  refine z_istore [(6, .int (iI 0)), (4, .long (lI 0)), (0, .ref (q 27)), (1, .ref (q (10 + b))), (2, .int (iI z)), (3, .int (iI t))] dX4_bestByAnyAct_4 (by decide) rfl ?_
  have hl_6 : ∀ (N_6 : Nat) (u : Int) (mo : Int), (5 - u).toNat < N_6 → (0 ≤ u ∧ u ≤ 4) → (mo = max4 (rvX xi xa b) (bestF (rvX xi xa b) (t.toNat - 1)) z u.toNat) → ZMl l D vwCl (tysC cI cJ cZ cR) 31 q ({ frames := 4, cells := 0, slots := 0, locals := 95 } : Room) cX4_bestByAnyAct 7 RX4 wsX4_bestByAnyAct (some .long) (fun (r : Int64) (g : Nat → va_E) => (∃ e : Int, (e = bestF (rvX xi xa b) t.toNat z) ∧ r = lI e) ∧ g = (cX cI cJ cZ cR q w d xi xa)) p e s m args below meth c (cX cI cJ cZ cR q w d xi xa) 6 [(6, .int (iI u)), (4, .long (lI mo)), (0, .ref (q 27)), (1, .ref (q (10 + b))), (2, .int (iI z)), (3, .int (iI t))] [] := by
    intro N_6
    induction N_6 with
    | zero => intro u mo hm; exact absurd hm (Nat.not_lt_zero _)
    | succ N_6 ih_6 =>
      intro u mo hm_6 hu hmo
      have hm1 := max4_rng (B := bestF (rvX xi xa b) (t.toNat - 1)) hRM hU0 hBr hz.1 u.toNat
      rw [← hmo] at hm1
      have hb1 := byA_rng (B := bestF (rvX xi xa b) (t.toNat - 1)) hRM hU0 hBr (act := u) hz.1
      refine z_iload (j := 0) dX4_bestByAnyAct_6 rfl ?_
      refine z_iconst dX4_bestByAnyAct_8 ?_
      refine z_icmp_gt (tgt := 34) dX4_bestByAnyAct_9 (by decide) (by omega) (by decide) (fun c_9 => ?_) (fun c_9 => ?_)
      · refine z_lload (j := 1) dX4_bestByAnyAct_34 rfl ?_
        exact z_lret dX4_bestByAnyAct_36 ⟨⟨_, (by rw [hmo, show u.toNat = 4 by omega, show t.toNat = (t.toNat - 1) + 1 by omega]; rfl), rfl⟩, rfl⟩
      · refine z_lload (j := 1) dX4_bestByAnyAct_12 rfl ?_
        refine z_aload_n (j := 2) dX4_bestByAnyAct_14 rfl rfl ?_
        refine z_aload_n (j := 3) dX4_bestByAnyAct_15 rfl rfl ?_
        refine z_iload_n (j := 4) dX4_bestByAnyAct_16 rfl rfl ?_
        refine z_iload (j := 0) dX4_bestByAnyAct_17 rfl ?_
        refine z_iload_n (j := 5) dX4_bestByAnyAct_19 rfl rfl ?_
        refine z_callVl (i := 27) (ci := 4) (As := [.ref (q (10 + b)), .int (iI z), .int (iI u), .int (iI t)]) (rest := [.long (lI mo)]) (c_X4_bestByAct  hq hb hR (by omega) (by omega) (by omega) hT) dX4_bestByAnyAct_20 gX4_bestByAnyAct_X4_bestByAct rfl cd_X4_bestByAct ⟨Nat.le_of_ble_eq_true rfl, Nat.le_of_ble_eq_true rfl⟩ rfl rfl (by omega) rfl rfl rfl (Nat.le_of_ble_eq_true rfl) ⟨Nat.zero_le _, Nat.zero_le _⟩ (fun r_20 g_20 hp_20 => ?_)
        obtain ⟨⟨_, rfl, rfl⟩, rfl⟩ := hp_20
        refine z_mmaxl dX4_bestByAnyAct_23 m_X4_bestByAnyAct_lml62 m_X4_bestByAnyAct_sml m_X4_bestByAnyAct_iml m_X4_bestByAnyAct_kml (Nat.le_of_ble_eq_true rfl) (Nat.le_of_ble_eq_true rfl) ⟨Nat.zero_le _, Nat.zero_le _⟩ (by omega) (by omega) ?_
        refine z_lstore [(4, .long (lI (max mo (byA (rvX xi xa b) (bestF (rvX xi xa b) (t.toNat - 1)) u z)))), (6, .int (iI u)), (0, .ref (q 27)), (1, .ref (q (10 + b))), (2, .int (iI z)), (3, .int (iI t))] dX4_bestByAnyAct_26 (by decide) rfl ?_
        refine z_iinc (j := 1) [(6, .int (iI (u + 1))), (4, .long (lI (max mo (byA (rvX xi xa b) (bestF (rvX xi xa b) (t.toNat - 1)) u z)))), (0, .ref (q 27)), (1, .ref (q (10 + b))), (2, .int (iI z)), (3, .int (iI t))] dX4_bestByAnyAct_28 rfl (by decide) rfl ?_
        refine z_goto (tgt := 6) dX4_bestByAnyAct_31 (by decide) ?_
        exact z_sub [(6, .int (iI (u + 1))), (4, .long (lI (max mo (byA (rvX xi xa b) (bestF (rvX xi xa b) (t.toNat - 1)) u z)))), (0, .ref (q 27)), (1, .ref (q (10 + b))), (2, .int (iI z)), (3, .int (iI t))] [0, 1, 2, 3, 4, 5] rfl (ih_6 (u + 1) (max mo (byA (rvX xi xa b) (bestF (rvX xi xa b) (t.toNat - 1)) u z)) (by omega) (by omega) (by rw [stepN hu.1, max4, ← hmo, castN hu.1]))
  exact z_sub [(6, .int (iI 0)), (4, .long (lI 0)), (0, .ref (q 27)), (1, .ref (q (10 + b))), (2, .int (iI z)), (3, .int (iI t))] [0, 1, 2, 3, 4, 5] rfl (hl_6 _ 0 0 (Nat.lt_succ_self _) (by omega) (rfl))
theorem m_X4_fill_f15 : Cond.fieldLink RX4 15 "PoleBehind$SureTable" "stands" "Z" ∈ wsX4_fill := List.mem_of_getElem? (i := 1) rfl
theorem in_X4_fill_X4 : ∀ w ∈ wsX40, w ∈ wsX4_fill := fun _ h => List.mem_cons_of_mem _ (List.mem_append_left _ (List.mem_append_right _ h))
theorem m_X4_fill_f9 : Cond.fieldLink RX4 9 "PoleBehind$SureTable" "best" "[J" ∈ wsX4_fill := List.mem_of_getElem? (i := 2) rfl
theorem cd_J7_fill_d0a16 : yJ7_fill_d0a16.cls ≠ "java/lang/invoke/MethodHandle" ∧ yJ7_fill_d0a16.cls ≠ "java/lang/invoke/VarHandle" ∧ (parseMethodDescriptor yJ7_fill_d0a16.desc).map (fun d => d.parameters.length) = some 2 := ⟨by decide +kernel, by decide +kernel, by decide +kernel⟩
theorem cd_X4_bestByAnyAct : yX4_bestByAnyAct.cls = RX4 ∧ yX4_bestByAnyAct.cls ≠ "java/lang/invoke/MethodHandle" ∧ yX4_bestByAnyAct.cls ≠ "java/lang/invoke/VarHandle" ∧ (parseMethodDescriptor yX4_bestByAnyAct.desc).map (fun d => d.parameters.length) = some 3 := ⟨rfl, by decide +kernel, by decide +kernel, by decide +kernel⟩
theorem cd_X2_isAtTea : yX2_isAtTea.cls = RX2 ∧ yX2_isAtTea.cls ≠ "java/lang/invoke/MethodHandle" ∧ yX2_isAtTea.cls ≠ "java/lang/invoke/VarHandle" ∧ (parseMethodDescriptor yX2_isAtTea.desc).map (fun d => d.parameters.length) = some 1 := ⟨rfl, by decide +kernel, by decide +kernel, by decide +kernel⟩
set_option maxHeartbeats 400000 in
set_option maxRecDepth 100000 in
theorem c_X4_fill {l : Launch} {D : va_G} {cI cJ cZ cR : ClassId} {q : Nat → Nat} {w d : Nat} {xi : Nat → Int} {xa : Nat → Nat → Int} (hq : qOk 31 q) {b : Nat} (hb : b < 2) (hR : RvOk xi xa b) (h1 : 1 ≤ xi (10 + b)) (hst : xi 19 = 0 ∨ xi 19 = 1) (hok : xi 19 = 1 → TabOk (rvX xi xa b) (xa 17) 12) : Ctv l D vwCl (tysC cI cJ cZ cR) 31 q yX4_fill wsX4_fill ({ frames := 5, cells := 0, slots := 0, locals := 121 } : Room) [.ref (q 27), .ref (q (10 + b))] (cX cI cJ cZ cR q w d xi xa) (fun (g : Nat → va_E) => ∃ (xi' : Nat → Int) (xa' : Nat → Nat → Int), (TabOk (rvX xi xa b) (xa' 17) 12 ∧ (∀ k, k ≠ 17 → xa' k = xa k) ∧ xi' = va_up xi 19 1) ∧ g = (cX cI cJ cZ cR q w d xi' xa')) := by
  refine Ctv.of (cc := cX4_fill) (nL := 4) (own := RX4) (ret := none) (by decide) rfl rfl hq (Nat.le_of_ble_eq_true rfl) (fun p e s m args below meth c => ?_)
  obtain ⟨hN, hP, hK, hM, hD, hB⟩ := id hR
  have hRM := RvM_of hR
  have hnn : rN (rvX xi xa b) = xi (10 + b) := rfl
  refine z_aload_n (j := 0) dX4_fill_0 rfl rfl ?_
  refine z_getf (i := 27) (ci := 4) (k := 1) (v := .int (iI (xi 19))) dX4_fill_1 m_X4_fill_f15 in_X4_fill_X4 rfl (by decide) rfl (by omega) rfl rfl ?_
  refine z_if_eq (tgt := 8) dX4_fill_4 (by decide) (by omega) (fun c_4 => ?_) (fun c_4 => ?_)
  · refine z_aload_n (j := 0) dX4_fill_8 rfl rfl ?_
    refine z_getf (i := 27) (ci := 4) (k := 0) (v := .ref (q 28)) dX4_fill_9 m_X4_fill_f9 in_X4_fill_X4 rfl (by decide) rfl (by omega) rfl rfl ?_
    refine z_lconst (z := 0) dX4_fill_12 (by decide) ?_
    refine z_callSv (As := [.ref (q 28), .long (lI 0)]) (rest := []) (c_J7_fill_d0a16 hq (by omega) (by decide) rfl) dX4_fill_13 gX4_fill_J7_fill_d0a16 rfl cd_J7_fill_d0a16 ⟨Nat.le_of_ble_eq_true rfl, Nat.le_of_ble_eq_true rfl⟩ rfl rfl rfl (Nat.le_of_ble_eq_true rfl) ⟨Nat.zero_le _, Nat.zero_le _⟩ (fun g_13 hp_13 => ?_)
    obtain ⟨G, ⟨hG, hG2⟩, rfl⟩ := hp_13
    refine z_mem (lw_best (g := G)) ?_
    refine z_iconst dX4_fill_16 ?_
    refine z_istore_n [(2, .int (iI 0)), (0, .ref (q 27)), (1, .ref (q (10 + b)))] dX4_fill_17 rfl (by decide) rfl ?_
    have hl_18 : ∀ (N_18 : Nat) (u : Int) (ya : Nat → Nat → Int), (66 - u).toNat < N_18 → (0 ≤ u ∧ u ≤ 4 * xi (10 + b)) → (∀ k, k ≠ 17 → ya k = xa k) → (∀ s : Nat, (s : Int) < u → ya 17 s = bestF (rvX xi xa b) 0 (s : Int)) → ZMv l D vwCl (tysC cI cJ cZ cR) 31 q ({ frames := 5, cells := 0, slots := 0, locals := 121 } : Room) cX4_fill 4 RX4 wsX4_fill none (fun (g : Nat → va_E) => ∃ (xi' : Nat → Int) (xa' : Nat → Nat → Int), (TabOk (rvX xi xa b) (xa' 17) 12 ∧ (∀ k, k ≠ 17 → xa' k = xa k) ∧ xi' = va_up xi 19 1) ∧ g = (cX cI cJ cZ cR q w d xi' xa')) p e s m args below meth c (cX cI cJ cZ cR q w d xi ya) 18 [(2, .int (iI u)), (0, .ref (q 27)), (1, .ref (q (10 + b)))] [] := by
      intro N_18
      induction N_18 with
      | zero => intro u ya hm; exact absurd hm (Nat.not_lt_zero _)
      | succ N_18 ih_18 =>
        intro u ya hm_18 hu hya hT0
        have hRy := RvOk_eq (yi := xi) (xi := xi) rfl rfl (hya (4 + b) (by omega)) (hya (6 + b) (by omega)) (hya (8 + b) (by omega)) (hya (10 + b) (by omega)) hR
        have hRe := rvX_eq (yi := xi) (xi := xi) (b := b) rfl (hya (4 + b) (by omega)) (hya (6 + b) (by omega)) (hya (8 + b) (by omega)) (hya (10 + b) (by omega))
        refine z_iload_n (j := 0) dX4_fill_18 rfl rfl ?_
        refine z_aload_n (j := 2) dX4_fill_19 rfl rfl ?_
        refine z_callVi (i := 10 + b) (ci := 2) (As := []) (rest := [.int (iI u)]) (c_X2_spots  hq hb hRy) dX4_fill_20 gX4_fill_X2_spots rfl cd_X2_spots ⟨Nat.le_of_ble_eq_true rfl, Nat.le_of_ble_eq_true rfl⟩ rfl rfl (by omega) (cX_rv hb) rfl rfl (Nat.le_of_ble_eq_true rfl) ⟨Nat.zero_le _, Nat.zero_le _⟩ (fun r_20 g_20 hp_20 => ?_)
        obtain ⟨⟨_, rfl, rfl⟩, rfl⟩ := hp_20
        refine z_icmp_ge (tgt := 57) dX4_fill_23 (by decide) (by omega) (by omega) (fun c_23 => ?_) (fun c_23 => ?_)
        · refine z_iconst dX4_fill_57 ?_
          refine z_istore_n [(2, .int (iI 1)), (0, .ref (q 27)), (1, .ref (q (10 + b)))] dX4_fill_58 rfl (by decide) rfl ?_
          have hl_59 : ∀ (N_59 : Nat) (u : Int) (ya : Nat → Nat → Int), (14 - u).toNat < N_59 → (1 ≤ u ∧ u ≤ 13) → (∀ k, k ≠ 17 → ya k = xa k) → (TabOk (rvX xi xa b) (ya 17) (u - 1).toNat) → ZMv l D vwCl (tysC cI cJ cZ cR) 31 q ({ frames := 5, cells := 0, slots := 0, locals := 121 } : Room) cX4_fill 4 RX4 wsX4_fill none (fun (g : Nat → va_E) => ∃ (xi' : Nat → Int) (xa' : Nat → Nat → Int), (TabOk (rvX xi xa b) (xa' 17) 12 ∧ (∀ k, k ≠ 17 → xa' k = xa k) ∧ xi' = va_up xi 19 1) ∧ g = (cX cI cJ cZ cR q w d xi' xa')) p e s m args below meth c (cX cI cJ cZ cR q w d xi ya) 59 [(2, .int (iI u)), (0, .ref (q 27)), (1, .ref (q (10 + b)))] [] := by
            intro N_59
            induction N_59 with
            | zero => intro u ya hm; exact absurd hm (Nat.not_lt_zero _)
            | succ N_59 ih_59 =>
              intro u ya hm_59 hu hya hT
              have hRy := RvOk_eq (yi := xi) (xi := xi) rfl rfl (hya (4 + b) (by omega)) (hya (6 + b) (by omega)) (hya (8 + b) (by omega)) (hya (10 + b) (by omega)) hR
              have hRe := rvX_eq (yi := xi) (xi := xi) (b := b) rfl (hya (4 + b) (by omega)) (hya (6 + b) (by omega)) (hya (8 + b) (by omega)) (hya (10 + b) (by omega))
              refine z_iload_n (j := 0) dX4_fill_59 rfl rfl ?_
              refine z_bipush dX4_fill_60 (by decide) ?_
              refine z_icmp_gt (tgt := 111) dX4_fill_62 (by decide) (by omega) (by decide) (fun c_62 => ?_) (fun c_62 => ?_)
              · refine z_aload_n (j := 1) dX4_fill_111 rfl rfl ?_
                refine z_iconst dX4_fill_112 ?_
                refine z_putf (i := 27) (ci := 4) (k := 1) (cX cI cJ cZ cR q w d (va_up xi 19 1) ya) dX4_fill_113 m_X4_fill_f15 in_X4_fill_X4 rfl (by decide) rfl (by omega) rfl tyX4_ok nmX4 rfl rfl rfl (Nat.le_of_ble_eq_true rfl) lx_stands ?_
                exact z_vret dX4_fill_116 ⟨_, _, (by exact ⟨by rw [show (12 : Nat) = (u - 1).toNat by omega]; exact hT, hya, rfl⟩), rfl⟩
              · refine z_iconst dX4_fill_65 ?_
                refine z_istore_n [(3, .int (iI 0)), (2, .int (iI u)), (0, .ref (q 27)), (1, .ref (q (10 + b)))] dX4_fill_66 rfl (by decide) rfl ?_
                have hl_67 : ∀ (N_67 : Nat) (v : Int) (za : Nat → Nat → Int), (66 - v).toNat < N_67 → (0 ≤ v ∧ v ≤ 4 * xi (10 + b)) → (∀ k, k ≠ 17 → za k = xa k) → (TabOk (rvX xi xa b) (za 17) (u - 1).toNat) → (∀ s : Nat, (s : Int) < v → za 17 (64 * u.toNat + s) = bestF (rvX xi xa b) u.toNat (s : Int)) → ZMv l D vwCl (tysC cI cJ cZ cR) 31 q ({ frames := 5, cells := 0, slots := 0, locals := 121 } : Room) cX4_fill 4 RX4 wsX4_fill none (fun (g : Nat → va_E) => ∃ (xi' : Nat → Int) (xa' : Nat → Nat → Int), (TabOk (rvX xi xa b) (xa' 17) 12 ∧ (∀ k, k ≠ 17 → xa' k = xa k) ∧ xi' = va_up xi 19 1) ∧ g = (cX cI cJ cZ cR q w d xi' xa')) p e s m args below meth c (cX cI cJ cZ cR q w d xi za) 67 [(3, .int (iI v)), (2, .int (iI u)), (0, .ref (q 27)), (1, .ref (q (10 + b)))] [] := by
                  intro N_67
                  induction N_67 with
                  | zero => intro v za hm; exact absurd hm (Nat.not_lt_zero _)
                  | succ N_67 ih_67 =>
                    intro v za hm_67 hv hza hzT hzn
                    have hRz := RvOk_eq (yi := xi) (xi := xi) rfl rfl (hza (4 + b) (by omega)) (hza (6 + b) (by omega)) (hza (8 + b) (by omega)) (hza (10 + b) (by omega)) hR
                    have hRze := rvX_eq (yi := xi) (xi := xi) (b := b) rfl (hza (4 + b) (by omega)) (hza (6 + b) (by omega)) (hza (8 + b) (by omega)) (hza (10 + b) (by omega))
                    refine z_iload_n (j := 0) dX4_fill_67 rfl rfl ?_
                    refine z_aload_n (j := 3) dX4_fill_68 rfl rfl ?_
                    refine z_callVi (i := 10 + b) (ci := 2) (As := []) (rest := [.int (iI v)]) (c_X2_spots  hq hb hRz) dX4_fill_69 gX4_fill_X2_spots rfl cd_X2_spots ⟨Nat.le_of_ble_eq_true rfl, Nat.le_of_ble_eq_true rfl⟩ rfl rfl (by omega) (cX_rv hb) rfl rfl (Nat.le_of_ble_eq_true rfl) ⟨Nat.zero_le _, Nat.zero_le _⟩ (fun r_69 g_69 hp_69 => ?_)
                    obtain ⟨⟨_, rfl, rfl⟩, rfl⟩ := hp_69
                    refine z_icmp_ge (tgt := 105) dX4_fill_72 (by decide) (by omega) (by omega) (fun c_72 => ?_) (fun c_72 => ?_)
                    · refine z_iinc (j := 1) [(2, .int (iI (u + 1))), (3, .int (iI v)), (0, .ref (q 27)), (1, .ref (q (10 + b)))] dX4_fill_105 rfl (by decide) rfl ?_
                      refine z_goto (tgt := 59) dX4_fill_108 (by decide) ?_
                      exact z_sub [(2, .int (iI (u + 1))), (0, .ref (q 27)), (1, .ref (q (10 + b)))] [0, 2, 3] rfl (ih_59 (u + 1) za (by omega) (by omega) (hza) (fun t s ht hs => by
            by_cases hk : t = u.toNat
            · rw [hk]; exact hzn s (by omega)
            · exact hzT t s (by omega) hs))
                    · refine z_iload_n (j := 0) dX4_fill_75 rfl rfl ?_
                      refine z_bipush dX4_fill_76 (by decide) ?_
                      refine z_icmp_ge (tgt := 105) dX4_fill_78 (by decide) (by omega) (by decide) (fun c_78 => ?_) (fun c_78 => ?_)
                      · refine z_iinc (j := 1) [(2, .int (iI (u + 1))), (3, .int (iI v)), (0, .ref (q 27)), (1, .ref (q (10 + b)))] dX4_fill_105 rfl (by decide) rfl ?_
                        refine z_goto (tgt := 59) dX4_fill_108 (by decide) ?_
                        exact z_sub [(2, .int (iI (u + 1))), (0, .ref (q 27)), (1, .ref (q (10 + b)))] [0, 2, 3] rfl (ih_59 (u + 1) za (by omega) (by omega) (hza) (fun t s ht hs => by
            by_cases hk : t = u.toNat
            · rw [hk]; exact hzn s (by omega)
            · exact hzT t s (by omega) hs))
                      · refine z_aload_n (j := 2) dX4_fill_81 rfl rfl ?_
                        refine z_getf (i := 27) (ci := 4) (k := 0) (v := .ref (q 28)) dX4_fill_82 m_X4_fill_f9 in_X4_fill_X4 rfl (by decide) rfl (by omega) rfl rfl ?_
                        refine z_iload_n (j := 1) dX4_fill_85 rfl rfl ?_
                        refine z_bipush dX4_fill_86 (by decide) ?_
                        refine z_imul dX4_fill_88 ?_
                        refine z_iload_n (j := 0) dX4_fill_89 rfl rfl ?_
                        refine z_iadd dX4_fill_90 ?_
                        refine z_aload_n (j := 2) dX4_fill_91 rfl rfl ?_
                        refine z_aload_n (j := 3) dX4_fill_92 rfl rfl ?_
                        refine z_iload_n (j := 0) dX4_fill_93 rfl rfl ?_
                        refine z_iload_n (j := 1) dX4_fill_94 rfl rfl ?_
                        refine z_callVl (i := 27) (ci := 4) (As := [.ref (q (10 + b)), .int (iI v), .int (iI u)]) (rest := [.int (iI ((u * 64) + v)), .ref (q 28)]) (c_X4_bestByAnyAct  hq hb hRz (by omega) (by omega) (by rw [hRze, show u.toNat - 1 = (u - 1).toNat by omega]; exact fun s hs => hzT (u - 1).toNat s (by omega) hs)) dX4_fill_95 gX4_fill_X4_bestByAnyAct rfl cd_X4_bestByAnyAct ⟨Nat.le_of_ble_eq_true rfl, Nat.le_of_ble_eq_true rfl⟩ rfl rfl (by omega) rfl rfl rfl (Nat.le_of_ble_eq_true rfl) ⟨Nat.zero_le _, Nat.zero_le _⟩ (fun r_95 g_95 hp_95 => ?_)
                        obtain ⟨⟨_, rfl, rfl⟩, rfl⟩ := hp_95
                        refine z_last (i := 28) (g := za 17) 1 (cX cI cJ cZ cR q w d xi (va_up za 17 (va_up (za 17) ((u * 64) + v).toNat (bestF (rvX xi za b) u.toNat v)))) dX4_fill_98 (by omega) rfl rfl (by omega) (by omega) (by omega) lx_best ?_
                        refine z_iinc (j := 0) [(3, .int (iI (v + 1))), (2, .int (iI u)), (0, .ref (q 27)), (1, .ref (q (10 + b)))] dX4_fill_99 rfl (by decide) rfl ?_
                        refine z_goto (tgt := 67) dX4_fill_102 (by decide) ?_
                        exact z_sub [(3, .int (iI (v + 1))), (2, .int (iI u)), (0, .ref (q 27)), (1, .ref (q (10 + b)))] [0, 1, 2, 3] rfl (ih_67 (v + 1) (va_up za 17 (va_up (za 17) ((u * 64) + v).toNat (bestF (rvX xi za b) u.toNat v))) (by omega) (by omega) (fun k hk => by rw [up_n hk]; exact hza k hk) (fun t s ht hs => by rw [up_s, up_n (by omega)]; exact hzT t s ht hs) (fun s hs => by
              rw [up_s]
              by_cases hk : s = v.toNat
              · rw [show 64 * u.toNat + s = (u * 64 + v).toNat by omega, up_s, hRze, hk, castN hv.1]
              · rw [up_n (by omega)]; exact hzn s (by omega)))
                exact z_sub [(3, .int (iI 0)), (2, .int (iI u)), (0, .ref (q 27)), (1, .ref (q (10 + b)))] [0, 1, 2, 3] rfl (hl_67 _ 0 ya (Nat.lt_succ_self _) (by omega) (hya) (hT) (fun s hs => absurd hs (by omega)))
          exact z_sub [(2, .int (iI 1)), (0, .ref (q 27)), (1, .ref (q (10 + b)))] [0, 1, 2] rfl (hl_59 _ 1 ya (Nat.lt_succ_self _) (by omega) (hya) (fun t s ht hs => by
          rw [show t = 0 by omega, show 64 * 0 + s = s by omega]
          exact hT0 s (by omega)))
        · refine z_iload_n (j := 0) dX4_fill_26 rfl rfl ?_
          refine z_bipush dX4_fill_27 (by decide) ?_
          refine z_icmp_ge (tgt := 57) dX4_fill_29 (by decide) (by omega) (by decide) (fun c_29 => ?_) (fun c_29 => ?_)
          · refine z_iconst dX4_fill_57 ?_
            refine z_istore_n [(2, .int (iI 1)), (0, .ref (q 27)), (1, .ref (q (10 + b)))] dX4_fill_58 rfl (by decide) rfl ?_
            have hl_59 : ∀ (N_59 : Nat) (u : Int) (ya : Nat → Nat → Int), (14 - u).toNat < N_59 → (1 ≤ u ∧ u ≤ 13) → (∀ k, k ≠ 17 → ya k = xa k) → (TabOk (rvX xi xa b) (ya 17) (u - 1).toNat) → ZMv l D vwCl (tysC cI cJ cZ cR) 31 q ({ frames := 5, cells := 0, slots := 0, locals := 121 } : Room) cX4_fill 4 RX4 wsX4_fill none (fun (g : Nat → va_E) => ∃ (xi' : Nat → Int) (xa' : Nat → Nat → Int), (TabOk (rvX xi xa b) (xa' 17) 12 ∧ (∀ k, k ≠ 17 → xa' k = xa k) ∧ xi' = va_up xi 19 1) ∧ g = (cX cI cJ cZ cR q w d xi' xa')) p e s m args below meth c (cX cI cJ cZ cR q w d xi ya) 59 [(2, .int (iI u)), (0, .ref (q 27)), (1, .ref (q (10 + b)))] [] := by
              intro N_59
              induction N_59 with
              | zero => intro u ya hm; exact absurd hm (Nat.not_lt_zero _)
              | succ N_59 ih_59 =>
                intro u ya hm_59 hu hya hT
                have hRy := RvOk_eq (yi := xi) (xi := xi) rfl rfl (hya (4 + b) (by omega)) (hya (6 + b) (by omega)) (hya (8 + b) (by omega)) (hya (10 + b) (by omega)) hR
                have hRe := rvX_eq (yi := xi) (xi := xi) (b := b) rfl (hya (4 + b) (by omega)) (hya (6 + b) (by omega)) (hya (8 + b) (by omega)) (hya (10 + b) (by omega))
                refine z_iload_n (j := 0) dX4_fill_59 rfl rfl ?_
                refine z_bipush dX4_fill_60 (by decide) ?_
                refine z_icmp_gt (tgt := 111) dX4_fill_62 (by decide) (by omega) (by decide) (fun c_62 => ?_) (fun c_62 => ?_)
                · refine z_aload_n (j := 1) dX4_fill_111 rfl rfl ?_
                  refine z_iconst dX4_fill_112 ?_
                  refine z_putf (i := 27) (ci := 4) (k := 1) (cX cI cJ cZ cR q w d (va_up xi 19 1) ya) dX4_fill_113 m_X4_fill_f15 in_X4_fill_X4 rfl (by decide) rfl (by omega) rfl tyX4_ok nmX4 rfl rfl rfl (Nat.le_of_ble_eq_true rfl) lx_stands ?_
                  exact z_vret dX4_fill_116 ⟨_, _, (by exact ⟨by rw [show (12 : Nat) = (u - 1).toNat by omega]; exact hT, hya, rfl⟩), rfl⟩
                · refine z_iconst dX4_fill_65 ?_
                  refine z_istore_n [(3, .int (iI 0)), (2, .int (iI u)), (0, .ref (q 27)), (1, .ref (q (10 + b)))] dX4_fill_66 rfl (by decide) rfl ?_
                  have hl_67 : ∀ (N_67 : Nat) (v : Int) (za : Nat → Nat → Int), (66 - v).toNat < N_67 → (0 ≤ v ∧ v ≤ 4 * xi (10 + b)) → (∀ k, k ≠ 17 → za k = xa k) → (TabOk (rvX xi xa b) (za 17) (u - 1).toNat) → (∀ s : Nat, (s : Int) < v → za 17 (64 * u.toNat + s) = bestF (rvX xi xa b) u.toNat (s : Int)) → ZMv l D vwCl (tysC cI cJ cZ cR) 31 q ({ frames := 5, cells := 0, slots := 0, locals := 121 } : Room) cX4_fill 4 RX4 wsX4_fill none (fun (g : Nat → va_E) => ∃ (xi' : Nat → Int) (xa' : Nat → Nat → Int), (TabOk (rvX xi xa b) (xa' 17) 12 ∧ (∀ k, k ≠ 17 → xa' k = xa k) ∧ xi' = va_up xi 19 1) ∧ g = (cX cI cJ cZ cR q w d xi' xa')) p e s m args below meth c (cX cI cJ cZ cR q w d xi za) 67 [(3, .int (iI v)), (2, .int (iI u)), (0, .ref (q 27)), (1, .ref (q (10 + b)))] [] := by
                    intro N_67
                    induction N_67 with
                    | zero => intro v za hm; exact absurd hm (Nat.not_lt_zero _)
                    | succ N_67 ih_67 =>
                      intro v za hm_67 hv hza hzT hzn
                      have hRz := RvOk_eq (yi := xi) (xi := xi) rfl rfl (hza (4 + b) (by omega)) (hza (6 + b) (by omega)) (hza (8 + b) (by omega)) (hza (10 + b) (by omega)) hR
                      have hRze := rvX_eq (yi := xi) (xi := xi) (b := b) rfl (hza (4 + b) (by omega)) (hza (6 + b) (by omega)) (hza (8 + b) (by omega)) (hza (10 + b) (by omega))
                      refine z_iload_n (j := 0) dX4_fill_67 rfl rfl ?_
                      refine z_aload_n (j := 3) dX4_fill_68 rfl rfl ?_
                      refine z_callVi (i := 10 + b) (ci := 2) (As := []) (rest := [.int (iI v)]) (c_X2_spots  hq hb hRz) dX4_fill_69 gX4_fill_X2_spots rfl cd_X2_spots ⟨Nat.le_of_ble_eq_true rfl, Nat.le_of_ble_eq_true rfl⟩ rfl rfl (by omega) (cX_rv hb) rfl rfl (Nat.le_of_ble_eq_true rfl) ⟨Nat.zero_le _, Nat.zero_le _⟩ (fun r_69 g_69 hp_69 => ?_)
                      obtain ⟨⟨_, rfl, rfl⟩, rfl⟩ := hp_69
                      refine z_icmp_ge (tgt := 105) dX4_fill_72 (by decide) (by omega) (by omega) (fun c_72 => ?_) (fun c_72 => ?_)
                      · refine z_iinc (j := 1) [(2, .int (iI (u + 1))), (3, .int (iI v)), (0, .ref (q 27)), (1, .ref (q (10 + b)))] dX4_fill_105 rfl (by decide) rfl ?_
                        refine z_goto (tgt := 59) dX4_fill_108 (by decide) ?_
                        exact z_sub [(2, .int (iI (u + 1))), (0, .ref (q 27)), (1, .ref (q (10 + b)))] [0, 2, 3] rfl (ih_59 (u + 1) za (by omega) (by omega) (hza) (fun t s ht hs => by
            by_cases hk : t = u.toNat
            · rw [hk]; exact hzn s (by omega)
            · exact hzT t s (by omega) hs))
                      · refine z_iload_n (j := 0) dX4_fill_75 rfl rfl ?_
                        refine z_bipush dX4_fill_76 (by decide) ?_
                        refine z_icmp_ge (tgt := 105) dX4_fill_78 (by decide) (by omega) (by decide) (fun c_78 => ?_) (fun c_78 => ?_)
                        · refine z_iinc (j := 1) [(2, .int (iI (u + 1))), (3, .int (iI v)), (0, .ref (q 27)), (1, .ref (q (10 + b)))] dX4_fill_105 rfl (by decide) rfl ?_
                          refine z_goto (tgt := 59) dX4_fill_108 (by decide) ?_
                          exact z_sub [(2, .int (iI (u + 1))), (0, .ref (q 27)), (1, .ref (q (10 + b)))] [0, 2, 3] rfl (ih_59 (u + 1) za (by omega) (by omega) (hza) (fun t s ht hs => by
            by_cases hk : t = u.toNat
            · rw [hk]; exact hzn s (by omega)
            · exact hzT t s (by omega) hs))
                        · refine z_aload_n (j := 2) dX4_fill_81 rfl rfl ?_
                          refine z_getf (i := 27) (ci := 4) (k := 0) (v := .ref (q 28)) dX4_fill_82 m_X4_fill_f9 in_X4_fill_X4 rfl (by decide) rfl (by omega) rfl rfl ?_
                          refine z_iload_n (j := 1) dX4_fill_85 rfl rfl ?_
                          refine z_bipush dX4_fill_86 (by decide) ?_
                          refine z_imul dX4_fill_88 ?_
                          refine z_iload_n (j := 0) dX4_fill_89 rfl rfl ?_
                          refine z_iadd dX4_fill_90 ?_
                          refine z_aload_n (j := 2) dX4_fill_91 rfl rfl ?_
                          refine z_aload_n (j := 3) dX4_fill_92 rfl rfl ?_
                          refine z_iload_n (j := 0) dX4_fill_93 rfl rfl ?_
                          refine z_iload_n (j := 1) dX4_fill_94 rfl rfl ?_
                          refine z_callVl (i := 27) (ci := 4) (As := [.ref (q (10 + b)), .int (iI v), .int (iI u)]) (rest := [.int (iI ((u * 64) + v)), .ref (q 28)]) (c_X4_bestByAnyAct  hq hb hRz (by omega) (by omega) (by rw [hRze, show u.toNat - 1 = (u - 1).toNat by omega]; exact fun s hs => hzT (u - 1).toNat s (by omega) hs)) dX4_fill_95 gX4_fill_X4_bestByAnyAct rfl cd_X4_bestByAnyAct ⟨Nat.le_of_ble_eq_true rfl, Nat.le_of_ble_eq_true rfl⟩ rfl rfl (by omega) rfl rfl rfl (Nat.le_of_ble_eq_true rfl) ⟨Nat.zero_le _, Nat.zero_le _⟩ (fun r_95 g_95 hp_95 => ?_)
                          obtain ⟨⟨_, rfl, rfl⟩, rfl⟩ := hp_95
                          refine z_last (i := 28) (g := za 17) 1 (cX cI cJ cZ cR q w d xi (va_up za 17 (va_up (za 17) ((u * 64) + v).toNat (bestF (rvX xi za b) u.toNat v)))) dX4_fill_98 (by omega) rfl rfl (by omega) (by omega) (by omega) lx_best ?_
                          refine z_iinc (j := 0) [(3, .int (iI (v + 1))), (2, .int (iI u)), (0, .ref (q 27)), (1, .ref (q (10 + b)))] dX4_fill_99 rfl (by decide) rfl ?_
                          refine z_goto (tgt := 67) dX4_fill_102 (by decide) ?_
                          exact z_sub [(3, .int (iI (v + 1))), (2, .int (iI u)), (0, .ref (q 27)), (1, .ref (q (10 + b)))] [0, 1, 2, 3] rfl (ih_67 (v + 1) (va_up za 17 (va_up (za 17) ((u * 64) + v).toNat (bestF (rvX xi za b) u.toNat v))) (by omega) (by omega) (fun k hk => by rw [up_n hk]; exact hza k hk) (fun t s ht hs => by rw [up_s, up_n (by omega)]; exact hzT t s ht hs) (fun s hs => by
              rw [up_s]
              by_cases hk : s = v.toNat
              · rw [show 64 * u.toNat + s = (u * 64 + v).toNat by omega, up_s, hRze, hk, castN hv.1]
              · rw [up_n (by omega)]; exact hzn s (by omega)))
                  exact z_sub [(3, .int (iI 0)), (2, .int (iI u)), (0, .ref (q 27)), (1, .ref (q (10 + b)))] [0, 1, 2, 3] rfl (hl_67 _ 0 ya (Nat.lt_succ_self _) (by omega) (hya) (hT) (fun s hs => absurd hs (by omega)))
            exact z_sub [(2, .int (iI 1)), (0, .ref (q 27)), (1, .ref (q (10 + b)))] [0, 1, 2] rfl (hl_59 _ 1 ya (Nat.lt_succ_self _) (by omega) (hya) (fun t s ht hs => by
          rw [show t = 0 by omega, show 64 * 0 + s = s by omega]
          exact hT0 s (by omega)))
          · refine z_aload_n (j := 1) dX4_fill_32 rfl rfl ?_
            refine z_getf (i := 27) (ci := 4) (k := 0) (v := .ref (q 28)) dX4_fill_33 m_X4_fill_f9 in_X4_fill_X4 rfl (by decide) rfl (by omega) rfl rfl ?_
            refine z_iload_n (j := 0) dX4_fill_36 rfl rfl ?_
            refine z_aload_n (j := 2) dX4_fill_37 rfl rfl ?_
            refine z_iload_n (j := 0) dX4_fill_38 rfl rfl ?_
            refine z_callVi (i := 10 + b) (ci := 2) (As := [.int (iI u)]) (rest := [.int (iI u), .ref (q 28)]) (c_X2_isAtTea  hq hb hRy (by omega)) dX4_fill_39 gX4_fill_X2_isAtTea rfl cd_X2_isAtTea ⟨Nat.le_of_ble_eq_true rfl, Nat.le_of_ble_eq_true rfl⟩ rfl rfl (by omega) (cX_rv hb) rfl rfl (Nat.le_of_ble_eq_true rfl) ⟨Nat.zero_le _, Nat.zero_le _⟩ (fun r_39 g_39 hp_39 => ?_)
            obtain ⟨⟨h_39, rfl⟩ | ⟨h_39, rfl⟩, rfl⟩ := hp_39
            · refine z_if_eq (tgt := 49) dX4_fill_42 (by decide) (by decide) (fun h => absurd h (by decide)) (fun _ => ?_)
              refine z_lconst (z := 1) dX4_fill_45 (by decide) ?_
              refine z_goto (tgt := 50) dX4_fill_46 (by decide) ?_
              refine z_last (i := 28) (g := ya 17) 1 (cX cI cJ cZ cR q w d xi (va_up ya 17 (va_up (ya 17) u.toNat 1))) dX4_fill_50 (by omega) rfl rfl (by omega) (by omega) (by omega) lx_best ?_
              refine z_iinc (j := 0) [(2, .int (iI (u + 1))), (0, .ref (q 27)), (1, .ref (q (10 + b)))] dX4_fill_51 rfl (by decide) rfl ?_
              refine z_goto (tgt := 18) dX4_fill_54 (by decide) ?_
              exact z_sub [(2, .int (iI (u + 1))), (0, .ref (q 27)), (1, .ref (q (10 + b)))] [0, 1, 2] rfl (ih_18 (u + 1) (va_up ya 17 (va_up (ya 17) u.toNat 1)) (by omega) (by omega) (fun k hk => by rw [up_n hk]; exact hya k hk) (fun s hs => by
            rw [up_s]
            by_cases hk : s = u.toNat
            · rw [hk, up_s, bestF, castN hu.1, hnn]
              first | rw [if_pos h_39] | rw [if_neg h_39]
            · rw [up_n hk]; exact hT0 s (by omega)))
            · refine z_if_eq (tgt := 49) dX4_fill_42 (by decide) (by decide) (fun _ => ?_) (fun h => absurd h (by decide))
              refine z_lconst (z := 0) dX4_fill_49 (by decide) ?_
              refine z_last (i := 28) (g := ya 17) 1 (cX cI cJ cZ cR q w d xi (va_up ya 17 (va_up (ya 17) u.toNat 0))) dX4_fill_50 (by omega) rfl rfl (by omega) (by omega) (by omega) lx_best ?_
              refine z_iinc (j := 0) [(2, .int (iI (u + 1))), (0, .ref (q 27)), (1, .ref (q (10 + b)))] dX4_fill_51 rfl (by decide) rfl ?_
              refine z_goto (tgt := 18) dX4_fill_54 (by decide) ?_
              exact z_sub [(2, .int (iI (u + 1))), (0, .ref (q 27)), (1, .ref (q (10 + b)))] [0, 1, 2] rfl (ih_18 (u + 1) (va_up ya 17 (va_up (ya 17) u.toNat 0)) (by omega) (by omega) (fun k hk => by rw [up_n hk]; exact hya k hk) (fun s hs => by
            rw [up_s]
            by_cases hk : s = u.toNat
            · rw [hk, up_s, bestF, castN hu.1, hnn]
              first | rw [if_pos h_39] | rw [if_neg h_39]
            · rw [up_n hk]; exact hT0 s (by omega)))
    exact z_sub [(2, .int (iI 0)), (0, .ref (q 27)), (1, .ref (q (10 + b)))] [0, 1, 2] rfl (hl_18 _ 0 (va_up xa 17 G) (Nat.lt_succ_self _) (by omega) (fun k hk => up_n hk) (fun s hs => absurd hs (by omega)))
  · exact z_vret dX4_fill_7 ⟨_, _, (by
      refine ⟨hok (by omega), fun k _ => rfl, ?_⟩
      have h9 := up_id (f := xi) (k := 19)
      rw [show xi 19 = 1 by omega] at h9
      exact h9.symm), rfl⟩
theorem cd_X7_tenTo : yX7_tenTo.cls ≠ "java/lang/invoke/MethodHandle" ∧ yX7_tenTo.cls ≠ "java/lang/invoke/VarHandle" ∧ (parseMethodDescriptor yX7_tenTo.desc).map (fun d => d.parameters.length) = some 1 := ⟨by decide +kernel, by decide +kernel, by decide +kernel⟩
theorem nwm_X4_46 : Cond.methodLinkNest RX4 46 yX7_tenTo "PoleBehind" ∈ NWl := List.mem_of_getElem? (i := 22) rfl
theorem m_X4_surestTurns_st_X7_tenTo : Cond.static yX7_tenTo ∈ wsX4_surestTurns := List.mem_of_getElem? (i := 13) rfl
theorem m_X4_surestTurns_in_X7_tenTo : Cond.initialized yX7_tenTo.cls ∈ wsX4_surestTurns := List.mem_of_getElem? (i := 14) rfl
set_option maxHeartbeats 400000 in
set_option maxRecDepth 100000 in
theorem c_X4_surestTurns {l : Launch} {D : va_G} {cI cJ cZ cR : ClassId} {q : Nat → Nat} {w d : Nat} {xi : Nat → Int} {xa : Nat → Nat → Int} (hq : qOk 31 q) {b : Nat} {nn : Int} (hb : b < 2) (hR : RvOk xi xa b) (h1 : 1 ≤ xi (10 + b)) (hn : 1 ≤ nn ∧ nn ≤ 12) (hT : TabOk (rvX xi xa b) (xa 17) 12) : Cti l D vwCl (tysC cI cJ cZ cR) 31 q yX4_surestTurns wsX4_surestTurns ({ frames := 1, cells := 0, slots := 0, locals := 24 } : Room) [.ref (q 27), .ref (q (10 + b)), .int (iI nn)] (cX cI cJ cZ cR q w d xi xa) (fun (r : Int32) (g : Nat → va_E) => (∃ e : Int, (e = (surT (rvX xi xa b) (xi (12 + b)) nn.toNat).2) ∧ r = iI e) ∧ g = (cX cI cJ cZ cR q w d xi xa)) := by
  refine Cti.of (cc := cX4_surestTurns) (nL := 9) (own := RX4) (ret := (some .int)) (by decide) rfl rfl hq (Nat.le_of_ble_eq_true rfl) (fun p e s m args below meth c => ?_)
  obtain ⟨hN, hP, hK, hM, hD, hB⟩ := id hR
  have hRM := RvM_of hR
  have hnn : rN (rvX xi xa b) = xi (10 + b) := rfl
  refine z_lconst (z := 0) dX4_surestTurns_0 (by decide) ?_
  refine z_lstore_n [(3, .long (lI 0)), (0, .ref (q 27)), (1, .ref (q (10 + b))), (2, .int (iI nn))] dX4_surestTurns_1 rfl (by decide) rfl ?_
  refine z_iconst dX4_surestTurns_2 ?_
  refine z_istore [(5, .int (iI 0)), (3, .long (lI 0)), (0, .ref (q 27)), (1, .ref (q (10 + b))), (2, .int (iI nn))] dX4_surestTurns_3 (by decide) rfl ?_
  refine z_iconst dX4_surestTurns_5 ?_
  refine z_istore [(6, .int (iI 1)), (5, .int (iI 0)), (3, .long (lI 0)), (0, .ref (q 27)), (1, .ref (q (10 + b))), (2, .int (iI nn))] dX4_surestTurns_6 (by decide) rfl ?_
  have hl_8 : ∀ (N_8 : Nat) (u : Int) (mo : Int) (tu : Int), (14 - u).toNat < N_8 → (1 ≤ u ∧ u ≤ nn + 1) → (surT (rvX xi xa b) (xi (12 + b)) (u - 1).toNat = (mo, tu)) → ZMi l D vwCl (tysC cI cJ cZ cR) 31 q ({ frames := 1, cells := 0, slots := 0, locals := 24 } : Room) cX4_surestTurns 9 RX4 wsX4_surestTurns (some .int) (fun (r : Int32) (g : Nat → va_E) => (∃ e : Int, (e = (surT (rvX xi xa b) (xi (12 + b)) nn.toNat).2) ∧ r = iI e) ∧ g = (cX cI cJ cZ cR q w d xi xa)) p e s m args below meth c (cX cI cJ cZ cR q w d xi xa) 8 [(6, .int (iI u)), (5, .int (iI tu)), (3, .long (lI mo)), (0, .ref (q 27)), (1, .ref (q (10 + b))), (2, .int (iI nn))] [] := by
    intro N_8
    induction N_8 with
    | zero => intro u mo tu hm; exact absurd hm (Nat.not_lt_zero _)
    | succ N_8 ih_8 =>
      intro u mo tu hm_8 hu hs
      have hsr := surT_rng hRM (p := xi (12 + b)) hP.1 (u - 1).toNat (by omega)
      rw [hs] at hsr
      refine z_iload (j := 0) dX4_surestTurns_8 rfl ?_
      refine z_iload_n (j := 5) dX4_surestTurns_10 rfl rfl ?_
      refine z_icmp_gt (tgt := 55) dX4_surestTurns_11 (by decide) (by omega) (by omega) (fun c_11 => ?_) (fun c_11 => ?_)
      · refine z_iload (j := 1) dX4_surestTurns_55 rfl ?_
        exact z_iret dX4_surestTurns_57 ⟨⟨_, (by rw [show nn.toNat = (u - 1).toNat by omega, hs]), rfl⟩, rfl⟩
      · refine z_aload_n (j := 3) dX4_surestTurns_14 rfl rfl ?_
        refine z_iload (j := 0) dX4_surestTurns_15 rfl ?_
        refine z_aload_n (j := 4) dX4_surestTurns_17 rfl rfl ?_
        refine z_callVi (i := 10 + b) (ci := 2) (As := []) (rest := [.int (iI u), .ref (q 27)]) (c_X2_start  hq hb hR) dX4_surestTurns_18 gX4_surestTurns_X2_start rfl cd_X2_start ⟨Nat.le_of_ble_eq_true rfl, Nat.le_of_ble_eq_true rfl⟩ rfl rfl (by omega) (cX_rv hb) rfl rfl (Nat.le_of_ble_eq_true rfl) ⟨Nat.zero_le _, Nat.zero_le _⟩ (fun r_18 g_18 hp_18 => ?_)
        obtain ⟨⟨_, rfl, rfl⟩, rfl⟩ := hp_18
        refine z_callVl (i := 27) (ci := 4) (As := [.int (iI u), .int (iI (xi (12 + b)))]) (rest := []) (c_X4_bestOf  hq (by omega) (by omega)) dX4_surestTurns_21 gX4_surestTurns_X4_bestOf rfl cd_X4_bestOf ⟨Nat.le_of_ble_eq_true rfl, Nat.le_of_ble_eq_true rfl⟩ rfl rfl (by omega) rfl rfl rfl (Nat.le_of_ble_eq_true rfl) ⟨Nat.zero_le _, Nat.zero_le _⟩ (fun r_21 g_21 hp_21 => ?_)
        obtain ⟨⟨e_21, he_21, rfl⟩, rfl⟩ := hp_21
        have h21 : e_21 = bestF (rvX xi xa b) u.toNat (xi (12 + b)) := by
          rw [he_21, if_pos ⟨by omega, by omega, by omega, by omega⟩, show (u * 64 + xi (12 + b)).toNat = 64 * u.toNat + (xi (12 + b)).toNat by omega, hT _ _ (by omega) (by omega), castN hP.1]
        have hsb := surB hRM (k := u.toNat) (by omega) hP.1
        rw [← h21, show 12 - u.toNat = (12 - u).toNat by omega] at hsb
        refine z_bipush dX4_surestTurns_24 (by decide) ?_
        refine z_iload (j := 0) dX4_surestTurns_26 rfl ?_
        refine z_isub dX4_surestTurns_28 ?_
        refine z_callNl (As := [.int (iI (12 - u))]) (rest := [.long (lI e_21)]) (c_X7_tenTo  hq (by omega)) dX4_surestTurns_29 gX4_surestTurns_X7_tenTo_n46 nwm_X4_46 m_X4_surestTurns_st_X7_tenTo m_X4_surestTurns_in_X7_tenTo rfl cd_X7_tenTo ⟨Nat.le_of_ble_eq_true rfl, Nat.le_of_ble_eq_true rfl⟩ rfl rfl rfl (Nat.le_of_ble_eq_true rfl) ⟨Nat.zero_le _, Nat.zero_le _⟩ (fun r_29 g_29 hp_29 => ?_)
        obtain ⟨⟨_, rfl, rfl⟩, rfl⟩ := hp_29
        refine z_lmul dX4_surestTurns_32 ?_
        refine z_lstore [(7, .long (lI (e_21 * (10 ^ (12 - u).toNat)))), (6, .int (iI u)), (5, .int (iI tu)), (3, .long (lI mo)), (0, .ref (q 27)), (1, .ref (q (10 + b))), (2, .int (iI nn))] dX4_surestTurns_33 (by decide) rfl ?_
        refine z_lload (j := 0) dX4_surestTurns_35 rfl ?_
        refine z_lload_n (j := 3) dX4_surestTurns_37 rfl rfl ?_
        refine z_lcmp dX4_surestTurns_38 (by omega) (by omega) (fun r_38 hr_38 => ?_)
        refine z_if_le (tgt := 49) dX4_surestTurns_39 (by decide) (by omega) (fun c_39 => ?_) (fun c_39 => ?_)
        · refine z_iinc (j := 1) [(6, .int (iI (u + 1))), (7, .long (lI (e_21 * (10 ^ (12 - u).toNat)))), (5, .int (iI tu)), (3, .long (lI mo)), (0, .ref (q 27)), (1, .ref (q (10 + b))), (2, .int (iI nn))] dX4_surestTurns_49 rfl (by decide) rfl ?_
          refine z_goto (tgt := 8) dX4_surestTurns_52 (by decide) ?_
          exact z_sub [(6, .int (iI (u + 1))), (5, .int (iI tu)), (3, .long (lI mo)), (0, .ref (q 27)), (1, .ref (q (10 + b))), (2, .int (iI nn))] [0, 2, 3, 4, 5, 6] rfl (ih_8 (u + 1) mo tu (by omega) (by omega) (by rw [show (u + 1 - 1).toNat = (u - 1).toNat + 1 by omega, surT, hs]; dsimp only; rw [show 11 - (u - 1).toNat = (12 - u).toNat by omega, show (u - 1).toNat + 1 = u.toNat by omega, castN (by omega), ← h21]; first | rw [if_pos (by omega)] | rw [if_neg (by omega)]))
        · refine z_lload (j := 0) dX4_surestTurns_42 rfl ?_
          refine z_lstore_n [(3, .long (lI (e_21 * (10 ^ (12 - u).toNat)))), (7, .long (lI (e_21 * (10 ^ (12 - u).toNat)))), (6, .int (iI u)), (5, .int (iI tu)), (0, .ref (q 27)), (1, .ref (q (10 + b))), (2, .int (iI nn))] dX4_surestTurns_44 rfl (by decide) rfl ?_
          refine z_iload (j := 2) dX4_surestTurns_45 rfl ?_
          refine z_istore [(5, .int (iI u)), (3, .long (lI (e_21 * (10 ^ (12 - u).toNat)))), (7, .long (lI (e_21 * (10 ^ (12 - u).toNat)))), (6, .int (iI u)), (0, .ref (q 27)), (1, .ref (q (10 + b))), (2, .int (iI nn))] dX4_surestTurns_47 (by decide) rfl ?_
          refine z_iinc (j := 3) [(6, .int (iI (u + 1))), (5, .int (iI u)), (3, .long (lI (e_21 * (10 ^ (12 - u).toNat)))), (7, .long (lI (e_21 * (10 ^ (12 - u).toNat)))), (0, .ref (q 27)), (1, .ref (q (10 + b))), (2, .int (iI nn))] dX4_surestTurns_49 rfl (by decide) rfl ?_
          refine z_goto (tgt := 8) dX4_surestTurns_52 (by decide) ?_
          exact z_sub [(6, .int (iI (u + 1))), (5, .int (iI u)), (3, .long (lI (e_21 * (10 ^ (12 - u).toNat)))), (0, .ref (q 27)), (1, .ref (q (10 + b))), (2, .int (iI nn))] [0, 1, 2, 4, 5, 6] rfl (ih_8 (u + 1) (e_21 * (10 ^ (12 - u).toNat)) u (by omega) (by omega) (by rw [show (u + 1 - 1).toNat = (u - 1).toNat + 1 by omega, surT, hs]; dsimp only; rw [show 11 - (u - 1).toNat = (12 - u).toNat by omega, show (u - 1).toNat + 1 = u.toNat by omega, castN (by omega), ← h21]; first | rw [if_pos (by omega)] | rw [if_neg (by omega)]))
  exact z_sub [(6, .int (iI 1)), (5, .int (iI 0)), (3, .long (lI 0)), (0, .ref (q 27)), (1, .ref (q (10 + b))), (2, .int (iI nn))] [0, 1, 2, 3, 4, 5] rfl (hl_8 _ 1 0 0 (Nat.lt_succ_self _) (by omega) (rfl))
set_option maxHeartbeats 400000 in
set_option maxRecDepth 100000 in
theorem c_X4_firstBestAct {l : Launch} {D : va_G} {cI cJ cZ cR : ClassId} {q : Nat → Nat} {w d : Nat} {xi : Nat → Int} {xa : Nat → Nat → Int} (hq : qOk 31 q) {b : Nat} {z t : Int} (hb : b < 2) (hR : RvOk xi xa b) (hz : 0 ≤ z ∧ z < 4 * xi (10 + b)) (ht : 1 ≤ t ∧ t ≤ 12) (hT : TabOk (rvX xi xa b) (xa 17) 12) : Cti l D vwCl (tysC cI cJ cZ cR) 31 q yX4_firstBestAct wsX4_firstBestAct ({ frames := 4, cells := 0, slots := 0, locals := 95 } : Room) [.ref (q 27), .ref (q (10 + b)), .int (iI z), .int (iI t)] (cX cI cJ cZ cR q w d xi xa) (fun (r : Int32) (g : Nat → va_E) => (∃ e : Int, (e = fstA (rvX xi xa b) (t.toNat - 1) z) ∧ r = iI e) ∧ g = (cX cI cJ cZ cR q w d xi xa)) := by
  refine Cti.of (cc := cX4_firstBestAct) (nL := 7) (own := RX4) (ret := (some .int)) (by decide) rfl rfl hq (Nat.le_of_ble_eq_true rfl) (fun p e s m args below meth c => ?_)
  obtain ⟨hN, hP, hK, hM, hD, hB⟩ := id hR
  have hRM := RvM_of hR
  have hnn : rN (rvX xi xa b) = xi (10 + b) := rfl
  have hfi := fstA_is hRM (t := t.toNat - 1) hz.1
  rw [show t.toNat - 1 + 1 = t.toNat by omega] at hfi
  have hbz := bestF_rng hRM t.toNat z hz.1
  have hU1 : (10 : Int) ^ t.toNat ≤ 10 ^ 12 := pow10_leN (by omega)
  have hU2 : (10 : Int) ^ 12 = 1000000000000 := by decide
  have hU0 : (0 : Int) ≤ 10 ^ (t.toNat - 1) := Int.pow_nonneg (by omega)
  have hU3 : (10 : Int) ^ (t.toNat - 1) ≤ 10 ^ 11 := pow10_leN (by omega)
  have hU4 : (10 : Int) ^ 11 = 100000000000 := by decide
  have hBr : ∀ s : Int, 0 ≤ s → 0 ≤ bestF (rvX xi xa b) (t.toNat - 1) s ∧ bestF (rvX xi xa b) (t.toNat - 1) s ≤ 10 ^ (t.toNat - 1) := fun s hs => bestF_rng hRM _ s hs
  refine z_aload_n (j := 0) dX4_firstBestAct_0 rfl rfl ?_
  refine z_iload_n (j := 3) dX4_firstBestAct_1 rfl rfl ?_
  refine z_iload_n (j := 2) dX4_firstBestAct_2 rfl rfl ?_
  refine z_callVl (i := 27) (ci := 4) (As := [.int (iI t), .int (iI z)]) (rest := []) (c_X4_bestOf  hq (by omega) (by omega)) dX4_firstBestAct_3 gX4_firstBestAct_X4_bestOf rfl cd_X4_bestOf ⟨Nat.le_of_ble_eq_true rfl, Nat.le_of_ble_eq_true rfl⟩ rfl rfl (by omega) rfl rfl rfl (Nat.le_of_ble_eq_true rfl) ⟨Nat.zero_le _, Nat.zero_le _⟩ (fun r_3 g_3 hp_3 => ?_)
  obtain ⟨⟨e_3, he_3, rfl⟩, rfl⟩ := hp_3
  have h3 : e_3 = bestF (rvX xi xa b) t.toNat z := by
    rw [he_3, if_pos ⟨by omega, by omega, by omega, by omega⟩, show (t * 64 + z).toNat = 64 * t.toNat + z.toNat by omega, hT _ _ (by omega) (by omega), castN hz.1]
  refine z_lstore [(4, .long (lI e_3)), (0, .ref (q 27)), (1, .ref (q (10 + b))), (2, .int (iI z)), (3, .int (iI t))] dX4_firstBestAct_6 (by decide) rfl ?_
  refine z_iconst dX4_firstBestAct_8 ?_
  refine z_istore [(6, .int (iI 0)), (4, .long (lI e_3)), (0, .ref (q 27)), (1, .ref (q (10 + b))), (2, .int (iI z)), (3, .int (iI t))] dX4_firstBestAct_9 (by decide) rfl ?_
  have hl_11 : ∀ (N_11 : Nat) (u : Int), (5 - u).toNat < N_11 → (0 ≤ u ∧ u ≤ 4) → (∀ a : Int, 0 ≤ a → a < u → byA (rvX xi xa b) (bestF (rvX xi xa b) (t.toNat - 1)) a z ≠ bestF (rvX xi xa b) t.toNat z) → ZMi l D vwCl (tysC cI cJ cZ cR) 31 q ({ frames := 4, cells := 0, slots := 0, locals := 95 } : Room) cX4_firstBestAct 7 RX4 wsX4_firstBestAct (some .int) (fun (r : Int32) (g : Nat → va_E) => (∃ e : Int, (e = fstA (rvX xi xa b) (t.toNat - 1) z) ∧ r = iI e) ∧ g = (cX cI cJ cZ cR q w d xi xa)) p e s m args below meth c (cX cI cJ cZ cR q w d xi xa) 11 [(6, .int (iI u)), (4, .long (lI e_3)), (0, .ref (q 27)), (1, .ref (q (10 + b))), (2, .int (iI z)), (3, .int (iI t))] [] := by
    intro N_11
    induction N_11 with
    | zero => intro u hm; exact absurd hm (Nat.not_lt_zero _)
    | succ N_11 ih_11 =>
      intro u hm_11 hu hno
      have hb1 := byA_rng (B := bestF (rvX xi xa b) (t.toNat - 1)) hRM hU0 hBr (act := u) hz.1
      have hle := fstA_one hRM (t := t.toNat - 1) hz.1 hu (by rw [show t.toNat - 1 + 1 = t.toNat by omega]; exact hno)
      refine z_iload (j := 0) dX4_firstBestAct_11 rfl ?_
      refine z_iconst dX4_firstBestAct_13 ?_
      refine z_icmp_gt (tgt := 41) dX4_firstBestAct_14 (by decide) (by omega) (by decide) (fun h => absurd h (by omega)) (fun c_14 => ?_)
      refine z_aload_n (j := 2) dX4_firstBestAct_17 rfl rfl ?_
      refine z_aload_n (j := 3) dX4_firstBestAct_18 rfl rfl ?_
      refine z_iload_n (j := 4) dX4_firstBestAct_19 rfl rfl ?_
      refine z_iload (j := 0) dX4_firstBestAct_20 rfl ?_
      refine z_iload_n (j := 5) dX4_firstBestAct_22 rfl rfl ?_
      refine z_callVl (i := 27) (ci := 4) (As := [.ref (q (10 + b)), .int (iI z), .int (iI u), .int (iI t)]) (rest := []) (c_X4_bestByAct  hq hb hR (by omega) (by omega) (by omega) (fun s hs => hT _ s (by omega) hs)) dX4_firstBestAct_23 gX4_firstBestAct_X4_bestByAct rfl cd_X4_bestByAct ⟨Nat.le_of_ble_eq_true rfl, Nat.le_of_ble_eq_true rfl⟩ rfl rfl (by omega) rfl rfl rfl (Nat.le_of_ble_eq_true rfl) ⟨Nat.zero_le _, Nat.zero_le _⟩ (fun r_23 g_23 hp_23 => ?_)
      obtain ⟨⟨_, rfl, rfl⟩, rfl⟩ := hp_23
      refine z_lload (j := 1) dX4_firstBestAct_26 rfl ?_
      refine z_lcmp dX4_firstBestAct_28 (by omega) (by omega) (fun r_28 hr_28 => ?_)
      refine z_if_ne (tgt := 35) dX4_firstBestAct_29 (by decide) (by omega) (fun c_29 => ?_) (fun c_29 => ?_)
      · refine z_iinc (j := 0) [(6, .int (iI (u + 1))), (4, .long (lI e_3)), (0, .ref (q 27)), (1, .ref (q (10 + b))), (2, .int (iI z)), (3, .int (iI t))] dX4_firstBestAct_35 rfl (by decide) rfl ?_
        refine z_goto (tgt := 11) dX4_firstBestAct_38 (by decide) ?_
        exact z_sub [(6, .int (iI (u + 1))), (4, .long (lI e_3)), (0, .ref (q 27)), (1, .ref (q (10 + b))), (2, .int (iI z)), (3, .int (iI t))] [0, 1, 2, 3, 4, 5] rfl (ih_11 (u + 1) (by omega) (by omega) (fun a h1 h2 => by
            by_cases hk : a = u
            · rw [hk]; omega
            · exact hno a h1 (by omega)))
      · refine z_iload (j := 0) dX4_firstBestAct_32 rfl ?_
        exact z_iret dX4_firstBestAct_34 ⟨⟨_, (by
      rcases Int.lt_or_eq_of_le hle with h | h
      · exact absurd (show byA (rvX xi xa b) (bestF (rvX xi xa b) (t.toNat - 1)) u z = bestF (rvX xi xa b) t.toNat z by omega) (hfi.2.2 u hu.1 h)
      · exact h), rfl⟩, rfl⟩
  exact z_sub [(6, .int (iI 0)), (4, .long (lI e_3)), (0, .ref (q 27)), (1, .ref (q (10 + b))), (2, .int (iI z)), (3, .int (iI t))] [0, 1, 2, 3, 4, 5] rfl (hl_11 _ 0 (Nat.lt_succ_self _) (by omega) (fun a h1 h2 => absurd h2 (by omega)))
theorem cd_X4_firstBestAct : yX4_firstBestAct.cls = RX4 ∧ yX4_firstBestAct.cls ≠ "java/lang/invoke/MethodHandle" ∧ yX4_firstBestAct.cls ≠ "java/lang/invoke/VarHandle" ∧ (parseMethodDescriptor yX4_firstBestAct.desc).map (fun d => d.parameters.length) = some 3 := ⟨rfl, by decide +kernel, by decide +kernel, by decide +kernel⟩
set_option maxHeartbeats 400000 in
set_option maxRecDepth 100000 in
theorem c_X4_actOf {l : Launch} {D : va_G} {cI cJ cZ cR : ClassId} {q : Nat → Nat} {w d : Nat} {xi : Nat → Int} {xa : Nat → Nat → Int} (hq : qOk 31 q) {b : Nat} {t qq : Int} (hb : b < 2) (hR : RvOk xi xa b) (h1 : 1 ≤ xi (10 + b)) (ht : 1 ≤ t ∧ t ≤ 12) (hq2 : 0 ≤ qq ∧ qq ≤ 100) (hT : TabOk (rvX xi xa b) (xa 17) 12) (hpos : 0 < bestF (rvX xi xa b) t.toNat (xi (12 + b))) : Cti l D vwCl (tysC cI cJ cZ cR) 31 q yX4_actOf wsX4_actOf ({ frames := 5, cells := 0, slots := 0, locals := 121 } : Room) [.ref (q 27), .ref (q (10 + b)), .int (iI t), .int (iI qq)] (cX cI cJ cZ cR q w d xi xa) (fun (r : Int32) (g : Nat → va_E) => (∃ e : Int, (e = if qq < t then fstA (rvX xi xa b) (t.toNat - qq.toNat - 1) (sptF (rvX xi xa b) t.toNat (xi (12 + b)) qq.toNat) else -9) ∧ r = iI e) ∧ g = (cX cI cJ cZ cR q w d xi xa)) := by
  refine Cti.of (cc := cX4_actOf) (nL := 7) (own := RX4) (ret := (some .int)) (by decide) rfl rfl hq (Nat.le_of_ble_eq_true rfl) (fun p e s m args below meth c => ?_)
  obtain ⟨hN, hP, hK, hM, hD, hB⟩ := id hR
  have hRM := RvM_of hR
  have hnn : rN (rvX xi xa b) = xi (10 + b) := rfl
  refine z_aload_n (j := 1) dX4_actOf_0 rfl rfl ?_
  refine z_callVi (i := 10 + b) (ci := 2) (As := []) (rest := []) (c_X2_start  hq hb hR) dX4_actOf_1 gX4_actOf_X2_start rfl cd_X2_start ⟨Nat.le_of_ble_eq_true rfl, Nat.le_of_ble_eq_true rfl⟩ rfl rfl (by omega) (cX_rv hb) rfl rfl (Nat.le_of_ble_eq_true rfl) ⟨Nat.zero_le _, Nat.zero_le _⟩ (fun r_1 g_1 hp_1 => ?_)
  obtain ⟨⟨_, rfl, rfl⟩, rfl⟩ := hp_1
  refine z_istore [(4, .int (iI (xi (12 + b)))), (0, .ref (q 27)), (1, .ref (q (10 + b))), (2, .int (iI t)), (3, .int (iI qq))] dX4_actOf_4 (by decide) rfl ?_
  refine z_iconst dX4_actOf_6 ?_
  refine z_istore [(5, .int (iI 0)), (4, .int (iI (xi (12 + b)))), (0, .ref (q 27)), (1, .ref (q (10 + b))), (2, .int (iI t)), (3, .int (iI qq))] dX4_actOf_7 (by decide) rfl ?_
  have hl_9 : ∀ (N_9 : Nat) (u : Int) (sp : Int), (14 - u).toNat < N_9 → (0 ≤ u ∧ u ≤ t ∧ u ≤ qq) → (sp = sptF (rvX xi xa b) t.toNat (xi (12 + b)) u.toNat) → ZMi l D vwCl (tysC cI cJ cZ cR) 31 q ({ frames := 5, cells := 0, slots := 0, locals := 121 } : Room) cX4_actOf 7 RX4 wsX4_actOf (some .int) (fun (r : Int32) (g : Nat → va_E) => (∃ e : Int, (e = if qq < t then fstA (rvX xi xa b) (t.toNat - qq.toNat - 1) (sptF (rvX xi xa b) t.toNat (xi (12 + b)) qq.toNat) else -9) ∧ r = iI e) ∧ g = (cX cI cJ cZ cR q w d xi xa)) p e s m args below meth c (cX cI cJ cZ cR q w d xi xa) 9 [(5, .int (iI u)), (4, .int (iI sp)), (0, .ref (q 27)), (1, .ref (q (10 + b))), (2, .int (iI t)), (3, .int (iI qq))] [] := by
    intro N_9
    induction N_9 with
    | zero => intro u sp hm; exact absurd hm (Nat.not_lt_zero _)
    | succ N_9 ih_9 =>
      intro u sp hm_9 hu hsp
      have hpp := sptF_pos hRM (T := t.toNat) (p := xi (12 + b)) (by rw [hnn]; omega) hpos u.toNat (by omega)
      rw [← hsp, hnn] at hpp
      have hfr := (fstA_is hRM (t := (t - u).toNat - 1) hpp.1.1).2.1
      refine z_iload (j := 0) dX4_actOf_9 rfl ?_
      refine z_iload_n (j := 4) dX4_actOf_11 rfl rfl ?_
      refine z_icmp_ge (tgt := 53) dX4_actOf_12 (by decide) (by omega) (by omega) (fun c_12 => ?_) (fun c_12 => ?_)
      · refine z_bipush dX4_actOf_53 (by decide) ?_
        exact z_iret dX4_actOf_55 ⟨⟨_, (by rw [if_neg (by omega)]), rfl⟩, rfl⟩
      · refine z_aload_n (j := 2) dX4_actOf_15 rfl rfl ?_
        refine z_aload_n (j := 3) dX4_actOf_16 rfl rfl ?_
        refine z_iload (j := 1) dX4_actOf_17 rfl ?_
        refine z_iload_n (j := 4) dX4_actOf_19 rfl rfl ?_
        refine z_iload (j := 0) dX4_actOf_20 rfl ?_
        refine z_isub dX4_actOf_22 ?_
        refine z_callVi (i := 27) (ci := 4) (As := [.ref (q (10 + b)), .int (iI sp), .int (iI (t - u))]) (rest := []) (c_X4_firstBestAct  hq hb hR (by omega) (by omega) hT) dX4_actOf_23 gX4_actOf_X4_firstBestAct rfl cd_X4_firstBestAct ⟨Nat.le_of_ble_eq_true rfl, Nat.le_of_ble_eq_true rfl⟩ rfl rfl (by omega) rfl rfl rfl (Nat.le_of_ble_eq_true rfl) ⟨Nat.zero_le _, Nat.zero_le _⟩ (fun r_23 g_23 hp_23 => ?_)
        obtain ⟨⟨_, rfl, rfl⟩, rfl⟩ := hp_23
        refine z_istore [(6, .int (iI (fstA (rvX xi xa b) ((t - u).toNat - 1) sp))), (5, .int (iI u)), (4, .int (iI sp)), (0, .ref (q 27)), (1, .ref (q (10 + b))), (2, .int (iI t)), (3, .int (iI qq))] dX4_actOf_26 (by decide) rfl ?_
        refine z_iload (j := 1) dX4_actOf_28 rfl ?_
        refine z_iload_n (j := 6) dX4_actOf_30 rfl rfl ?_
        refine z_icmp_ne (tgt := 37) dX4_actOf_31 (by decide) (by omega) (by omega) (fun c_31 => ?_) (fun c_31 => ?_)
        · refine z_aload_n (j := 4) dX4_actOf_37 rfl rfl ?_
          refine z_iload (j := 2) dX4_actOf_38 rfl ?_
          refine z_iload (j := 0) dX4_actOf_40 rfl ?_
          refine z_callVi (i := 10 + b) (ci := 2) (As := [.int (iI sp), .int (iI (fstA (rvX xi xa b) ((t - u).toNat - 1) sp))]) (rest := []) (c_X2_after  hq hb hR (by omega) (by omega)) dX4_actOf_42 gX4_actOf_X2_after rfl cd_X2_after ⟨Nat.le_of_ble_eq_true rfl, Nat.le_of_ble_eq_true rfl⟩ rfl rfl (by omega) (cX_rv hb) rfl rfl (Nat.le_of_ble_eq_true rfl) ⟨Nat.zero_le _, Nat.zero_le _⟩ (fun r_42 g_42 hp_42 => ?_)
          obtain ⟨⟨_, rfl, rfl⟩, rfl⟩ := hp_42
          refine z_istore [(4, .int (iI (aftA (rvX xi xa b) (fstA (rvX xi xa b) ((t - u).toNat - 1) sp) sp))), (6, .int (iI (fstA (rvX xi xa b) ((t - u).toNat - 1) sp))), (5, .int (iI u)), (0, .ref (q 27)), (1, .ref (q (10 + b))), (2, .int (iI t)), (3, .int (iI qq))] dX4_actOf_45 (by decide) rfl ?_
          refine z_iinc (j := 2) [(5, .int (iI (u + 1))), (4, .int (iI (aftA (rvX xi xa b) (fstA (rvX xi xa b) ((t - u).toNat - 1) sp) sp))), (6, .int (iI (fstA (rvX xi xa b) ((t - u).toNat - 1) sp))), (0, .ref (q 27)), (1, .ref (q (10 + b))), (2, .int (iI t)), (3, .int (iI qq))] dX4_actOf_47 rfl (by decide) rfl ?_
          refine z_goto (tgt := 9) dX4_actOf_50 (by decide) ?_
          exact z_sub [(5, .int (iI (u + 1))), (4, .int (iI (aftA (rvX xi xa b) (fstA (rvX xi xa b) ((t - u).toNat - 1) sp) sp))), (0, .ref (q 27)), (1, .ref (q (10 + b))), (2, .int (iI t)), (3, .int (iI qq))] [0, 1, 3, 4, 5, 6] rfl (ih_9 (u + 1) (aftA (rvX xi xa b) (fstA (rvX xi xa b) ((t - u).toNat - 1) sp) sp) (by omega) (by omega) (by rw [stepN hu.1, sptF, ← hsp, show t.toNat - u.toNat - 1 = (t - u).toNat - 1 by omega]))
        · refine z_iload (j := 0) dX4_actOf_34 rfl ?_
          exact z_iret dX4_actOf_36 ⟨⟨_, (by rw [if_pos (by omega), show qq.toNat = u.toNat by omega, ← hsp, show t.toNat - u.toNat - 1 = (t - u).toNat - 1 by omega]), rfl⟩, rfl⟩
  exact z_sub [(5, .int (iI 0)), (4, .int (iI (xi (12 + b)))), (0, .ref (q 27)), (1, .ref (q (10 + b))), (2, .int (iI t)), (3, .int (iI qq))] [0, 1, 2, 3, 4, 5] rfl (hl_9 _ 0 (xi (12 + b)) (Nat.lt_succ_self _) (by omega) (rfl))
theorem m_X6_waysFrom_f9 : Cond.fieldLink RX6 9 "PoleBehind$WayTable" "ways" "[I" ∈ wsX6_waysFrom := List.mem_of_getElem? (i := 1) rfl
theorem in_X6_waysFrom_X6 : ∀ w ∈ wsX60, w ∈ wsX6_waysFrom := fun _ h => List.mem_cons_of_mem _ (List.mem_append_right _ h)
set_option maxHeartbeats 400000 in
set_option maxRecDepth 100000 in
theorem c_X6_waysFrom {l : Launch} {D : va_G} {cI cJ cZ cR : ClassId} {q : Nat → Nat} {w d : Nat} {xi : Nat → Int} {xa : Nat → Nat → Int} (hq : qOk 31 q) {t z : Int} (ht : -100 ≤ t ∧ t ≤ 100) (hz : -100 ≤ z ∧ z ≤ 1000) : Cti l D vwCl (tysC cI cJ cZ cR) 31 q yX6_waysFrom wsX6_waysFrom ({ frames := 0, cells := 0, slots := 0, locals := 0 } : Room) [.ref (q 29), .int (iI t), .int (iI z)] (cX cI cJ cZ cR q w d xi xa) (fun (r : Int32) (g : Nat → va_E) => (∃ e : Int, (e = if 0 ≤ t ∧ 0 ≤ z ∧ z < 64 ∧ t * 64 + z < 512 then xa 16 (t * 64 + z).toNat else 0) ∧ r = iI e) ∧ g = (cX cI cJ cZ cR q w d xi xa)) := by
  refine Cti.of (cc := cX6_waysFrom) (nL := 5) (own := RX6) (ret := (some .int)) (by decide) rfl rfl hq (Nat.le_of_ble_eq_true rfl) (fun p e s m args below meth c => ?_)
  refine z_iload_n (j := 1) dX6_waysFrom_0 rfl rfl ?_
  refine z_bipush dX6_waysFrom_1 (by decide) ?_
  refine z_imul dX6_waysFrom_3 ?_
  refine z_iload_n (j := 2) dX6_waysFrom_4 rfl rfl ?_
  refine z_iadd dX6_waysFrom_5 ?_
  refine z_istore_n [(3, .int (iI ((t * 64) + z))), (0, .ref (q 29)), (1, .int (iI t)), (2, .int (iI z))] dX6_waysFrom_6 rfl (by decide) rfl ?_
  refine z_iload_n (j := 2) dX6_waysFrom_7 rfl rfl ?_
  refine z_if_lt (tgt := 34) dX6_waysFrom_8 (by decide) (by omega) (fun c_8 => ?_) (fun c_8 => ?_)
  · refine z_iconst dX6_waysFrom_34 ?_
    refine z_istore [(4, .int (iI 0)), (3, .int (iI ((t * 64) + z))), (0, .ref (q 29)), (1, .int (iI t)), (2, .int (iI z))] dX6_waysFrom_35 (by decide) rfl ?_
    refine z_iload (j := 0) dX6_waysFrom_37 rfl ?_
    refine z_if_eq (tgt := 51) dX6_waysFrom_39 (by decide) (by decide) (fun _ => ?_) (fun h => absurd h (by decide))
    refine z_iconst dX6_waysFrom_51 ?_
    exact z_iret dX6_waysFrom_52 ⟨⟨_, (by first | rw [if_pos ⟨by omega, by omega, by omega, by omega⟩] | rw [if_neg (by omega)]), rfl⟩, rfl⟩
  · refine z_iload_n (j := 3) dX6_waysFrom_11 rfl rfl ?_
    refine z_if_lt (tgt := 34) dX6_waysFrom_12 (by decide) (by omega) (fun c_12 => ?_) (fun c_12 => ?_)
    · refine z_iconst dX6_waysFrom_34 ?_
      refine z_istore [(4, .int (iI 0)), (3, .int (iI ((t * 64) + z))), (0, .ref (q 29)), (1, .int (iI t)), (2, .int (iI z))] dX6_waysFrom_35 (by decide) rfl ?_
      refine z_iload (j := 0) dX6_waysFrom_37 rfl ?_
      refine z_if_eq (tgt := 51) dX6_waysFrom_39 (by decide) (by decide) (fun _ => ?_) (fun h => absurd h (by decide))
      refine z_iconst dX6_waysFrom_51 ?_
      exact z_iret dX6_waysFrom_52 ⟨⟨_, (by first | rw [if_pos ⟨by omega, by omega, by omega, by omega⟩] | rw [if_neg (by omega)]), rfl⟩, rfl⟩
    · refine z_iload_n (j := 3) dX6_waysFrom_15 rfl rfl ?_
      refine z_bipush dX6_waysFrom_16 (by decide) ?_
      refine z_icmp_ge (tgt := 34) dX6_waysFrom_18 (by decide) (by omega) (by decide) (fun c_18 => ?_) (fun c_18 => ?_)
      · refine z_iconst dX6_waysFrom_34 ?_
        refine z_istore [(4, .int (iI 0)), (3, .int (iI ((t * 64) + z))), (0, .ref (q 29)), (1, .int (iI t)), (2, .int (iI z))] dX6_waysFrom_35 (by decide) rfl ?_
        refine z_iload (j := 0) dX6_waysFrom_37 rfl ?_
        refine z_if_eq (tgt := 51) dX6_waysFrom_39 (by decide) (by decide) (fun _ => ?_) (fun h => absurd h (by decide))
        refine z_iconst dX6_waysFrom_51 ?_
        exact z_iret dX6_waysFrom_52 ⟨⟨_, (by first | rw [if_pos ⟨by omega, by omega, by omega, by omega⟩] | rw [if_neg (by omega)]), rfl⟩, rfl⟩
      · refine z_iload_n (j := 0) dX6_waysFrom_21 rfl rfl ?_
        refine z_aload_n (j := 1) dX6_waysFrom_22 rfl rfl ?_
        refine z_getf (i := 29) (ci := 6) (k := 0) (v := .ref (q 30)) dX6_waysFrom_23 m_X6_waysFrom_f9 in_X6_waysFrom_X6 rfl (by decide) rfl (by omega) rfl rfl ?_
        refine z_alen (i := 30) 0 dX6_waysFrom_26 (by omega) rfl rfl ?_
        refine z_icmp_ge (tgt := 34) dX6_waysFrom_27 (by decide) (by omega) (by omega) (fun c_27 => ?_) (fun c_27 => ?_)
        · refine z_iconst dX6_waysFrom_34 ?_
          refine z_istore [(4, .int (iI 0)), (3, .int (iI ((t * 64) + z))), (0, .ref (q 29)), (1, .int (iI t)), (2, .int (iI z))] dX6_waysFrom_35 (by decide) rfl ?_
          refine z_iload (j := 0) dX6_waysFrom_37 rfl ?_
          refine z_if_eq (tgt := 51) dX6_waysFrom_39 (by decide) (by decide) (fun _ => ?_) (fun h => absurd h (by decide))
          refine z_iconst dX6_waysFrom_51 ?_
          exact z_iret dX6_waysFrom_52 ⟨⟨_, (by first | rw [if_pos ⟨by omega, by omega, by omega, by omega⟩] | rw [if_neg (by omega)]), rfl⟩, rfl⟩
        · refine z_iconst dX6_waysFrom_30 ?_
          refine z_goto (tgt := 35) dX6_waysFrom_31 (by decide) ?_
          refine z_istore [(4, .int (iI 1)), (3, .int (iI ((t * 64) + z))), (0, .ref (q 29)), (1, .int (iI t)), (2, .int (iI z))] dX6_waysFrom_35 (by decide) rfl ?_
          refine z_iload (j := 0) dX6_waysFrom_37 rfl ?_
          refine z_if_eq (tgt := 51) dX6_waysFrom_39 (by decide) (by decide) (fun h => absurd h (by decide)) (fun _ => ?_)
          refine z_aload_n (j := 2) dX6_waysFrom_42 rfl rfl ?_
          refine z_getf (i := 29) (ci := 6) (k := 0) (v := .ref (q 30)) dX6_waysFrom_43 m_X6_waysFrom_f9 in_X6_waysFrom_X6 rfl (by decide) rfl (by omega) rfl rfl ?_
          refine z_iload_n (j := 1) dX6_waysFrom_46 rfl rfl ?_
          refine z_iald (i := 30) (g := xa 16) 0 dX6_waysFrom_47 (by omega) rfl rfl (by omega) (by omega) (by omega) ?_
          refine z_goto (tgt := 52) dX6_waysFrom_48 (by decide) ?_
          exact z_iret dX6_waysFrom_52 ⟨⟨_, (by first | rw [if_pos ⟨by omega, by omega, by omega, by omega⟩] | rw [if_neg (by omega)]), rfl⟩, rfl⟩
theorem cd_X6_waysFrom : yX6_waysFrom.cls = RX6 ∧ yX6_waysFrom.cls ≠ "java/lang/invoke/MethodHandle" ∧ yX6_waysFrom.cls ≠ "java/lang/invoke/VarHandle" ∧ (parseMethodDescriptor yX6_waysFrom.desc).map (fun d => d.parameters.length) = some 2 := ⟨rfl, by decide +kernel, by decide +kernel, by decide +kernel⟩
set_option maxHeartbeats 400000 in
set_option maxRecDepth 100000 in
theorem c_X6_waysByAnyAct {l : Launch} {D : va_G} {cI cJ cZ cR : ClassId} {q : Nat → Nat} {w d : Nat} {xi : Nat → Int} {xa : Nat → Nat → Int} (hq : qOk 31 q) {b : Nat} {Bf : Int → Int} {t z : Int} (hb : b < 2) (hR : RvOk xi xa b) (hz : 0 ≤ z ∧ z < 4 * xi (10 + b)) (ht : 0 ≤ t ∧ t ≤ 6) (hW : ∀ s : Nat, (s : Int) < 4 * xi (10 + b) → xa 16 (64 * (t.toNat + 1) + s) = Bf (s : Int) ∧ 0 ≤ Bf (s : Int) ∧ Bf (s : Int) ≤ 4096) : Cti l D vwCl (tysC cI cJ cZ cR) 31 q yX6_waysByAnyAct wsX6_waysByAnyAct ({ frames := 3, cells := 0, slots := 0, locals := 70 } : Room) [.ref (q 29), .ref (q (10 + b)), .int (iI t), .int (iI z)] (cX cI cJ cZ cR q w d xi xa) (fun (r : Int32) (g : Nat → va_E) => (∃ e : Int, (e = sum4 (rvX xi xa b) Bf z 4) ∧ r = iI e) ∧ g = (cX cI cJ cZ cR q w d xi xa)) := by
  refine Cti.of (cc := cX6_waysByAnyAct) (nL := 6) (own := RX6) (ret := (some .int)) (by decide) rfl rfl hq (Nat.le_of_ble_eq_true rfl) (fun p e s m args below meth c => ?_)
  obtain ⟨hN, hP, hK, hM, hD, hB⟩ := id hR
  have hRM := RvM_of hR
  have hnn : rN (rvX xi xa b) = xi (10 + b) := rfl
  refine z_iconst dX6_waysByAnyAct_0 ?_
  refine z_istore [(4, .int (iI 0)), (0, .ref (q 29)), (1, .ref (q (10 + b))), (2, .int (iI t)), (3, .int (iI z))] dX6_waysByAnyAct_1 (by decide) rfl ?_
  refine z_iconst dX6_waysByAnyAct_3 ?_
  refine z_istore [(5, .int (iI 0)), (4, .int (iI 0)), (0, .ref (q 29)), (1, .ref (q (10 + b))), (2, .int (iI t)), (3, .int (iI z))] dX6_waysByAnyAct_4 (by decide) rfl ?_
  have hl_6 : ∀ (N_6 : Nat) (u : Int) (sm : Int), (5 - u).toNat < N_6 → (0 ≤ u ∧ u ≤ 4) → (sm = sum4 (rvX xi xa b) Bf z u.toNat) → ZMi l D vwCl (tysC cI cJ cZ cR) 31 q ({ frames := 3, cells := 0, slots := 0, locals := 70 } : Room) cX6_waysByAnyAct 6 RX6 wsX6_waysByAnyAct (some .int) (fun (r : Int32) (g : Nat → va_E) => (∃ e : Int, (e = sum4 (rvX xi xa b) Bf z 4) ∧ r = iI e) ∧ g = (cX cI cJ cZ cR q w d xi xa)) p e s m args below meth c (cX cI cJ cZ cR q w d xi xa) 6 [(5, .int (iI u)), (4, .int (iI sm)), (0, .ref (q 29)), (1, .ref (q (10 + b))), (2, .int (iI t)), (3, .int (iI z))] [] := by
    intro N_6
    induction N_6 with
    | zero => intro u sm hm; exact absurd hm (Nat.not_lt_zero _)
    | succ N_6 ih_6 =>
      intro u sm hm_6 hu hsm
      have har := aftA_rng (R := (rvX xi xa b)) (act := u) hRM.1 hz.1
      refine z_iload (j := 0) dX6_waysByAnyAct_6 rfl ?_
      refine z_iconst dX6_waysByAnyAct_8 ?_
      refine z_icmp_gt (tgt := 37) dX6_waysByAnyAct_9 (by decide) (by omega) (by decide) (fun c_9 => ?_) (fun c_9 => ?_)
      · refine z_iload (j := 1) dX6_waysByAnyAct_37 rfl ?_
        exact z_iret dX6_waysByAnyAct_39 ⟨⟨_, (by rw [hsm, show u.toNat = 4 by omega]), rfl⟩, rfl⟩
      · refine z_iload (j := 1) dX6_waysByAnyAct_12 rfl ?_
        refine z_aload_n (j := 2) dX6_waysByAnyAct_14 rfl rfl ?_
        refine z_iload_n (j := 4) dX6_waysByAnyAct_15 rfl rfl ?_
        refine z_iconst dX6_waysByAnyAct_16 ?_
        refine z_iadd dX6_waysByAnyAct_17 ?_
        refine z_aload_n (j := 3) dX6_waysByAnyAct_18 rfl rfl ?_
        refine z_iload_n (j := 5) dX6_waysByAnyAct_19 rfl rfl ?_
        refine z_iload (j := 0) dX6_waysByAnyAct_20 rfl ?_
        refine z_callVi (i := 10 + b) (ci := 2) (As := [.int (iI z), .int (iI u)]) (rest := [.int (iI (t + 1)), .ref (q 29), .int (iI sm)]) (c_X2_after  hq hb hR (by omega) (by omega)) dX6_waysByAnyAct_22 gX6_waysByAnyAct_X2_after rfl cd_X2_after ⟨Nat.le_of_ble_eq_true rfl, Nat.le_of_ble_eq_true rfl⟩ rfl rfl (by omega) (cX_rv hb) rfl rfl (Nat.le_of_ble_eq_true rfl) ⟨Nat.zero_le _, Nat.zero_le _⟩ (fun r_22 g_22 hp_22 => ?_)
        obtain ⟨⟨_, rfl, rfl⟩, rfl⟩ := hp_22
        refine z_callVi (i := 29) (ci := 6) (As := [.int (iI (t + 1)), .int (iI (aftA (rvX xi xa b) u z))]) (rest := [.int (iI sm)]) (c_X6_waysFrom  hq (by omega) (by omega)) dX6_waysByAnyAct_25 gX6_waysByAnyAct_X6_waysFrom rfl cd_X6_waysFrom ⟨Nat.le_of_ble_eq_true rfl, Nat.le_of_ble_eq_true rfl⟩ rfl rfl (by omega) rfl rfl rfl (Nat.le_of_ble_eq_true rfl) ⟨Nat.zero_le _, Nat.zero_le _⟩ (fun r_25 g_25 hp_25 => ?_)
        obtain ⟨⟨e_25, he_25, rfl⟩, rfl⟩ := hp_25
        have hw : e_25 = if aftA (rvX xi xa b) u z = -1 then 0 else Bf (aftA (rvX xi xa b) u z) := by
          rw [he_25]
          by_cases hx : aftA (rvX xi xa b) u z = -1
          · rw [if_neg (by omega), if_pos hx]
          · rw [if_pos ⟨by omega, by omega, by omega, by omega⟩, if_neg hx, show ((t + 1) * 64 + aftA (rvX xi xa b) u z).toNat = 64 * (t.toNat + 1) + (aftA (rvX xi xa b) u z).toNat by omega, (hW _ (by omega)).1, show (((aftA (rvX xi xa b) u z).toNat : Nat) : Int) = aftA (rvX xi xa b) u z by omega]
        have hwr : 0 ≤ e_25 ∧ e_25 ≤ 4096 := by
          rw [hw]
          by_cases hx : aftA (rvX xi xa b) u z = -1
          · rw [if_pos hx]; omega
          · rw [if_neg hx]
            have h9 := hW (aftA (rvX xi xa b) u z).toNat (by omega)
            rw [show (((aftA (rvX xi xa b) u z).toNat : Nat) : Int) = aftA (rvX xi xa b) u z by omega] at h9
            exact h9.2
        refine z_iadd dX6_waysByAnyAct_28 ?_
        refine z_istore [(4, .int (iI (sm + e_25))), (5, .int (iI u)), (0, .ref (q 29)), (1, .ref (q (10 + b))), (2, .int (iI t)), (3, .int (iI z))] dX6_waysByAnyAct_29 (by decide) rfl ?_
        refine z_iinc (j := 1) [(5, .int (iI (u + 1))), (4, .int (iI (sm + e_25))), (0, .ref (q 29)), (1, .ref (q (10 + b))), (2, .int (iI t)), (3, .int (iI z))] dX6_waysByAnyAct_31 rfl (by decide) rfl ?_
        refine z_goto (tgt := 6) dX6_waysByAnyAct_34 (by decide) ?_
        exact z_sub [(5, .int (iI (u + 1))), (4, .int (iI (sm + e_25))), (0, .ref (q 29)), (1, .ref (q (10 + b))), (2, .int (iI t)), (3, .int (iI z))] [0, 1, 2, 3, 4, 5] rfl (ih_6 (u + 1) (sm + e_25) (by omega) (by omega) (by rw [stepN hu.1, sum4, ← hsm, castN hu.1, ← hw]))
  exact z_sub [(5, .int (iI 0)), (4, .int (iI 0)), (0, .ref (q 29)), (1, .ref (q (10 + b))), (2, .int (iI t)), (3, .int (iI z))] [0, 1, 2, 3, 4, 5] rfl (hl_6 _ 0 0 (Nat.lt_succ_self _) (by omega) (rfl))
set_option maxHeartbeats 400000 in
set_option maxRecDepth 100000 in
theorem c_X6_firstActWithWays {l : Launch} {D : va_G} {cI cJ cZ cR : ClassId} {q : Nat → Nat} {w d : Nat} {xi : Nat → Int} {xa : Nat → Nat → Int} (hq : qOk 31 q) {b : Nat} {Bf : Int → Int} {t z : Int} (hb : b < 2) (hR : RvOk xi xa b) (hz : 0 ≤ z ∧ z < 4 * xi (10 + b)) (ht : 0 ≤ t ∧ t ≤ 6) (hW : ∀ s : Nat, (s : Int) < 4 * xi (10 + b) → xa 16 (64 * (t.toNat + 1) + s) = Bf (s : Int) ∧ 0 ≤ Bf (s : Int) ∧ Bf (s : Int) ≤ 4096) : Cti l D vwCl (tysC cI cJ cZ cR) 31 q yX6_firstActWithWays wsX6_firstActWithWays ({ frames := 3, cells := 0, slots := 0, locals := 70 } : Room) [.ref (q 29), .ref (q (10 + b)), .int (iI t), .int (iI z)] (cX cI cJ cZ cR q w d xi xa) (fun (r : Int32) (g : Nat → va_E) => (∃ e : Int, (e = fstW (rvX xi xa b) Bf z) ∧ r = iI e) ∧ g = (cX cI cJ cZ cR q w d xi xa)) := by
  refine Cti.of (cc := cX6_firstActWithWays) (nL := 5) (own := RX6) (ret := (some .int)) (by decide) rfl rfl hq (Nat.le_of_ble_eq_true rfl) (fun p e s m args below meth c => ?_)
  obtain ⟨hN, hP, hK, hM, hD, hB⟩ := id hR
  have hRM := RvM_of hR
  have hnn : rN (rvX xi xa b) = xi (10 + b) := rfl
  refine z_iconst dX6_firstActWithWays_0 ?_
  refine z_istore [(4, .int (iI 0)), (0, .ref (q 29)), (1, .ref (q (10 + b))), (2, .int (iI t)), (3, .int (iI z))] dX6_firstActWithWays_1 (by decide) rfl ?_
  have hl_3 : ∀ (N_3 : Nat) (u : Int), (5 - u).toNat < N_3 → (0 ≤ u ∧ u ≤ 4) → (∀ a : Int, 0 ≤ a → a < u → ¬ (aftA (rvX xi xa b) a z ≠ -1 ∧ 0 < Bf (aftA (rvX xi xa b) a z))) → ZMi l D vwCl (tysC cI cJ cZ cR) 31 q ({ frames := 3, cells := 0, slots := 0, locals := 70 } : Room) cX6_firstActWithWays 5 RX6 wsX6_firstActWithWays (some .int) (fun (r : Int32) (g : Nat → va_E) => (∃ e : Int, (e = fstW (rvX xi xa b) Bf z) ∧ r = iI e) ∧ g = (cX cI cJ cZ cR q w d xi xa)) p e s m args below meth c (cX cI cJ cZ cR q w d xi xa) 3 [(4, .int (iI u)), (0, .ref (q 29)), (1, .ref (q (10 + b))), (2, .int (iI t)), (3, .int (iI z))] [] := by
    intro N_3
    induction N_3 with
    | zero => intro u hm; exact absurd hm (Nat.not_lt_zero _)
    | succ N_3 ih_3 =>
      intro u hm_3 hu hno
      have har := aftA_rng (R := (rvX xi xa b)) (act := u) hRM.1 hz.1
      refine z_iload (j := 0) dX6_firstActWithWays_3 rfl ?_
      refine z_iconst dX6_firstActWithWays_5 ?_
      refine z_icmp_gt (tgt := 35) dX6_firstActWithWays_6 (by decide) (by omega) (by decide) (fun c_6 => ?_) (fun c_6 => ?_)
      · refine z_bipush dX6_firstActWithWays_35 (by decide) ?_
        exact z_iret dX6_firstActWithWays_37 ⟨⟨_, (by exact (fstW_none (fun a h1 h2 => hno a h1 (by omega))).symm), rfl⟩, rfl⟩
      · refine z_aload_n (j := 1) dX6_firstActWithWays_9 rfl rfl ?_
        refine z_iload_n (j := 3) dX6_firstActWithWays_10 rfl rfl ?_
        refine z_iconst dX6_firstActWithWays_11 ?_
        refine z_iadd dX6_firstActWithWays_12 ?_
        refine z_aload_n (j := 2) dX6_firstActWithWays_13 rfl rfl ?_
        refine z_iload_n (j := 4) dX6_firstActWithWays_14 rfl rfl ?_
        refine z_iload (j := 0) dX6_firstActWithWays_15 rfl ?_
        refine z_callVi (i := 10 + b) (ci := 2) (As := [.int (iI z), .int (iI u)]) (rest := [.int (iI (t + 1)), .ref (q 29)]) (c_X2_after  hq hb hR (by omega) (by omega)) dX6_firstActWithWays_17 gX6_firstActWithWays_X2_after rfl cd_X2_after ⟨Nat.le_of_ble_eq_true rfl, Nat.le_of_ble_eq_true rfl⟩ rfl rfl (by omega) (cX_rv hb) rfl rfl (Nat.le_of_ble_eq_true rfl) ⟨Nat.zero_le _, Nat.zero_le _⟩ (fun r_17 g_17 hp_17 => ?_)
        obtain ⟨⟨_, rfl, rfl⟩, rfl⟩ := hp_17
        refine z_callVi (i := 29) (ci := 6) (As := [.int (iI (t + 1)), .int (iI (aftA (rvX xi xa b) u z))]) (rest := []) (c_X6_waysFrom  hq (by omega) (by omega)) dX6_firstActWithWays_20 gX6_firstActWithWays_X6_waysFrom rfl cd_X6_waysFrom ⟨Nat.le_of_ble_eq_true rfl, Nat.le_of_ble_eq_true rfl⟩ rfl rfl (by omega) rfl rfl rfl (Nat.le_of_ble_eq_true rfl) ⟨Nat.zero_le _, Nat.zero_le _⟩ (fun r_20 g_20 hp_20 => ?_)
        obtain ⟨⟨e_20, he_20, rfl⟩, rfl⟩ := hp_20
        have hw : e_20 = if aftA (rvX xi xa b) u z = -1 then 0 else Bf (aftA (rvX xi xa b) u z) := by
          rw [he_20]
          by_cases hx : aftA (rvX xi xa b) u z = -1
          · rw [if_neg (by omega), if_pos hx]
          · rw [if_pos ⟨by omega, by omega, by omega, by omega⟩, if_neg hx, show ((t + 1) * 64 + aftA (rvX xi xa b) u z).toNat = 64 * (t.toNat + 1) + (aftA (rvX xi xa b) u z).toNat by omega, (hW _ (by omega)).1, show (((aftA (rvX xi xa b) u z).toNat : Nat) : Int) = aftA (rvX xi xa b) u z by omega]
        have hwr : 0 ≤ e_20 ∧ e_20 ≤ 4096 := by
          rw [hw]
          by_cases hx : aftA (rvX xi xa b) u z = -1
          · rw [if_pos hx]; omega
          · rw [if_neg hx]
            have h9 := hW (aftA (rvX xi xa b) u z).toNat (by omega)
            rw [show (((aftA (rvX xi xa b) u z).toNat : Nat) : Int) = aftA (rvX xi xa b) u z by omega] at h9
            exact h9.2
        refine z_if_le (tgt := 29) dX6_firstActWithWays_23 (by decide) (by omega) (fun c_23 => ?_) (fun c_23 => ?_)
        · refine z_iinc (j := 0) [(4, .int (iI (u + 1))), (0, .ref (q 29)), (1, .ref (q (10 + b))), (2, .int (iI t)), (3, .int (iI z))] dX6_firstActWithWays_29 rfl (by decide) rfl ?_
          refine z_goto (tgt := 3) dX6_firstActWithWays_32 (by decide) ?_
          exact z_sub [(4, .int (iI (u + 1))), (0, .ref (q 29)), (1, .ref (q (10 + b))), (2, .int (iI t)), (3, .int (iI z))] [0, 1, 2, 3, 4] rfl (ih_3 (u + 1) (by omega) (by omega) (fun a h1 h2 => by
            by_cases hk : a = u
            · rw [hk]
              rintro ⟨g1, g2⟩
              rw [if_neg g1] at hw
              omega
            · exact hno a h1 (by omega)))
        · refine z_iload (j := 0) dX6_firstActWithWays_26 rfl ?_
          exact z_iret dX6_firstActWithWays_28 ⟨⟨_, (by
      refine (fstW_at hu.1 (by omega) hno ?_).symm
      refine ⟨fun g1 => ?_, ?_⟩
      · rw [if_pos g1] at hw; omega
      · by_cases g1 : aftA (rvX xi xa b) u z = -1
        · rw [if_pos g1] at hw; omega
        · rw [if_neg g1] at hw; omega), rfl⟩, rfl⟩
  exact z_sub [(4, .int (iI 0)), (0, .ref (q 29)), (1, .ref (q (10 + b))), (2, .int (iI t)), (3, .int (iI z))] [0, 1, 2, 3, 4] rfl (hl_3 _ 0 (Nat.lt_succ_self _) (by omega) (fun a h1 h2 => absurd h2 (by omega)))
theorem m_X6_fill_f9 : Cond.fieldLink RX6 9 "PoleBehind$WayTable" "ways" "[I" ∈ wsX6_fill := List.mem_of_getElem? (i := 1) rfl
theorem in_X6_fill_X6 : ∀ w ∈ wsX60, w ∈ wsX6_fill := fun _ h => List.mem_cons_of_mem _ (List.mem_append_left _ (List.mem_append_left _ (List.mem_append_right _ h)))
theorem m_X6_fill_lmi21 : Cond.methodLink RX6 21 Lib.Math.min.name ∈ wsX6_fill := List.mem_of_getElem? (i := 2) rfl
theorem m_X6_fill_smi : Cond.static Lib.Math.min.name ∈ wsX6_fill := List.mem_of_getElem? (i := 3) rfl
theorem m_X6_fill_imi : Cond.initialized "java/lang/Math" ∈ wsX6_fill := List.mem_of_getElem? (i := 4) rfl
theorem m_X6_fill_kmi : Cond.code Lib.Math.min.name Lib.Math.min.code 2 (some .int) ∈ wsX6_fill := List.mem_of_getElem? (i := 5) rfl
theorem nwm_X6_33 : Cond.methodLinkNest RX6 33 yX7_cellOf "PoleBehind" ∈ NWl := List.mem_of_getElem? (i := 23) rfl
theorem m_X6_fill_st_X7_cellOf : Cond.static yX7_cellOf ∈ wsX6_fill := List.mem_of_getElem? (i := 16) rfl
theorem m_X6_fill_in_X7_cellOf : Cond.initialized yX7_cellOf.cls ∈ wsX6_fill := List.mem_of_getElem? (i := 17) rfl
theorem cd_X1_allow : yX1_allow.cls = RX1 ∧ yX1_allow.cls ≠ "java/lang/invoke/MethodHandle" ∧ yX1_allow.cls ≠ "java/lang/invoke/VarHandle" ∧ (parseMethodDescriptor yX1_allow.desc).map (fun d => d.parameters.length) = some 2 := ⟨rfl, by decide +kernel, by decide +kernel, by decide +kernel⟩
theorem cd_X6_waysByAnyAct : yX6_waysByAnyAct.cls = RX6 ∧ yX6_waysByAnyAct.cls ≠ "java/lang/invoke/MethodHandle" ∧ yX6_waysByAnyAct.cls ≠ "java/lang/invoke/VarHandle" ∧ (parseMethodDescriptor yX6_waysByAnyAct.desc).map (fun d => d.parameters.length) = some 3 := ⟨rfl, by decide +kernel, by decide +kernel, by decide +kernel⟩
set_option maxHeartbeats 400000 in
set_option maxRecDepth 100000 in
theorem c_X6_fill {l : Launch} {D : va_G} {cI cJ cZ cR : ClassId} {q : Nat → Nat} {w d : Nat} {xi : Nat → Int} {xa : Nat → Nat → Int} (hq : qOk 31 q) {b : Nat} {nn : Int} (hb : b < 2) (hR : RvOk xi xa b) (h1 : 1 ≤ xi (10 + b)) (hn : 0 ≤ nn ∧ nn ≤ 7) (hRd : RdgOk xi xa) : Ctv l D vwCl (tysC cI cJ cZ cR) 31 q yX6_fill wsX6_fill ({ frames := 4, cells := 0, slots := 0, locals := 95 } : Room) [.ref (q 29), .ref (q (10 + b)), .ref (q 24), .int (iI nn)] (cX cI cJ cZ cR q w d xi xa) (fun (g : Nat → va_E) => ∃ (xa' : Nat → Nat → Int), (WayOk (rvX xi xa b) (alX xi xa) nn.toNat (xa' 16) 0 ∧ ∀ k, k ≠ 16 → xa' k = xa k) ∧ g = (cX cI cJ cZ cR q w d xi xa')) := by
  refine Ctv.of (cc := cX6_fill) (nL := 6) (own := RX6) (ret := none) (by decide) rfl rfl hq (Nat.le_of_ble_eq_true rfl) (fun p e s m args below meth c => ?_)
  obtain ⟨hN, hP, hK, hM, hD, hB⟩ := id hR
  have hRM := RvM_of hR
  have hnn : rN (rvX xi xa b) = xi (10 + b) := rfl
  obtain ⟨hr8, hrT, hrC⟩ := id hRd
  refine z_aload_n (j := 0) dX6_fill_0 rfl rfl ?_
  refine z_getf (i := 29) (ci := 6) (k := 0) (v := .ref (q 30)) dX6_fill_1 m_X6_fill_f9 in_X6_fill_X6 rfl (by decide) rfl (by omega) rfl rfl ?_
  refine z_iconst dX6_fill_4 ?_
  refine z_callSv (As := [.ref (q 30), .int (iI 0)]) (rest := []) (c_J7_fill_53178 hq (by omega) (by decide) rfl) dX6_fill_5 gX6_fill_J7_fill_53178 rfl cd_J7_fill_53178 ⟨Nat.le_of_ble_eq_true rfl, Nat.le_of_ble_eq_true rfl⟩ rfl rfl rfl (Nat.le_of_ble_eq_true rfl) ⟨Nat.zero_le _, Nat.zero_le _⟩ (fun g_5 hp_5 => ?_)
  obtain ⟨G, ⟨hG, hG2⟩, rfl⟩ := hp_5
  refine z_mem (lw_ways (g := G)) ?_
  refine z_iload_n (j := 3) dX6_fill_8 rfl rfl ?_
  refine z_bipush dX6_fill_9 (by decide) ?_
  refine z_mmin dX6_fill_11 m_X6_fill_lmi21 m_X6_fill_smi m_X6_fill_imi m_X6_fill_kmi (Nat.le_of_ble_eq_true rfl) (Nat.le_of_ble_eq_true rfl) ⟨Nat.zero_le _, Nat.zero_le _⟩ (by omega) (by decide) ?_
  refine z_istore [(4, .int (iI (min nn 7))), (0, .ref (q 29)), (1, .ref (q (10 + b))), (2, .ref (q 24)), (3, .int (iI nn))] dX6_fill_14 (by decide) rfl ?_
  have hl_16 : ∀ (N_16 : Nat) (u : Int) (ya : Nat → Nat → Int), (u + 1).toNat < N_16 → (-1 ≤ u ∧ u ≤ nn) → (∀ k, k ≠ 16 → ya k = xa k) → (WayOk (rvX xi xa b) (alX xi xa) nn.toNat (ya 16) (u + 1)) → (∀ k : Nat, (k : Int) < 64 * (u + 1) → ya 16 k = 0) → ZMv l D vwCl (tysC cI cJ cZ cR) 31 q ({ frames := 4, cells := 0, slots := 0, locals := 95 } : Room) cX6_fill 6 RX6 wsX6_fill none (fun (g : Nat → va_E) => ∃ (xa' : Nat → Nat → Int), (WayOk (rvX xi xa b) (alX xi xa) nn.toNat (xa' 16) 0 ∧ ∀ k, k ≠ 16 → xa' k = xa k) ∧ g = (cX cI cJ cZ cR q w d xi xa')) p e s m args below meth c (cX cI cJ cZ cR q w d xi ya) 16 [(4, .int (iI u)), (0, .ref (q 29)), (1, .ref (q (10 + b))), (2, .ref (q 24)), (3, .int (iI nn))] [] := by
    intro N_16
    induction N_16 with
    | zero => intro u ya hm; exact absurd hm (Nat.not_lt_zero _)
    | succ N_16 ih_16 =>
      intro u ya hm_16 hu hya hW h0
      refine z_iload (j := 0) dX6_fill_16 rfl ?_
      refine z_if_lt (tgt := 98) dX6_fill_18 (by decide) (by omega) (fun c_18 => ?_) (fun c_18 => ?_)
      · exact z_vret dX6_fill_98 ⟨_, (by exact ⟨by rw [show (0 : Int) = u + 1 by omega]; exact hW, hya⟩), rfl⟩
      · refine z_iconst dX6_fill_21 ?_
        refine z_istore [(5, .int (iI 0)), (4, .int (iI u)), (0, .ref (q 29)), (1, .ref (q (10 + b))), (2, .ref (q 24)), (3, .int (iI nn))] dX6_fill_22 (by decide) rfl ?_
        have hl_24 : ∀ (N_24 : Nat) (v : Int) (za : Nat → Nat → Int), (66 - v).toNat < N_24 → (0 ≤ v ∧ v ≤ 4 * xi (10 + b)) → (∀ k, k ≠ 16 → za k = xa k) → (WayOk (rvX xi xa b) (alX xi xa) nn.toNat (za 16) (u + 1)) → (∀ k : Nat, (k : Int) < 64 * u ∨ ((64 * u + v ≤ (k : Int)) ∧ (k : Int) < 64 * u + 64) → za 16 k = 0) → (∀ s : Nat, (s : Int) < v → za 16 (64 * u.toNat + s) = wayF (rvX xi xa b) (alX xi xa) nn.toNat (nn.toNat - u.toNat) (s : Int)) → ZMv l D vwCl (tysC cI cJ cZ cR) 31 q ({ frames := 4, cells := 0, slots := 0, locals := 95 } : Room) cX6_fill 6 RX6 wsX6_fill none (fun (g : Nat → va_E) => ∃ (xa' : Nat → Nat → Int), (WayOk (rvX xi xa b) (alX xi xa) nn.toNat (xa' 16) 0 ∧ ∀ k, k ≠ 16 → xa' k = xa k) ∧ g = (cX cI cJ cZ cR q w d xi xa')) p e s m args below meth c (cX cI cJ cZ cR q w d xi za) 24 [(5, .int (iI v)), (4, .int (iI u)), (0, .ref (q 29)), (1, .ref (q (10 + b))), (2, .ref (q 24)), (3, .int (iI nn))] [] := by
          intro N_24
          induction N_24 with
          | zero => intro v za hm; exact absurd hm (Nat.not_lt_zero _)
          | succ N_24 ih_24 =>
            intro v za hm_24 hv hza hzW hz0 hzn
            have hRz := RvOk_eq (yi := xi) (xi := xi) rfl rfl (hza (4 + b) (by omega)) (hza (6 + b) (by omega)) (hza (8 + b) (by omega)) (hza (10 + b) (by omega)) hR
            have hRze := rvX_eq (yi := xi) (xi := xi) (b := b) rfl (hza (4 + b) (by omega)) (hza (6 + b) (by omega)) (hza (8 + b) (by omega)) (hza (10 + b) (by omega))
            have hRdz : RdgOk xi za := by
              unfold RdgOk
              rw [hza 14 (by decide), hza 15 (by decide)]
              exact hRd
            have hz14 := hza 14 (by decide)
            have hz15 := hza 15 (by decide)
            refine z_iload (j := 0) dX6_fill_24 rfl ?_
            refine z_aload_n (j := 3) dX6_fill_26 rfl rfl ?_
            refine z_callVi (i := 10 + b) (ci := 2) (As := []) (rest := [.int (iI v)]) (c_X2_spots  hq hb hRz) dX6_fill_27 gX6_fill_X2_spots rfl cd_X2_spots ⟨Nat.le_of_ble_eq_true rfl, Nat.le_of_ble_eq_true rfl⟩ rfl rfl (by omega) (cX_rv hb) rfl rfl (Nat.le_of_ble_eq_true rfl) ⟨Nat.zero_le _, Nat.zero_le _⟩ (fun r_27 g_27 hp_27 => ?_)
            obtain ⟨⟨_, rfl, rfl⟩, rfl⟩ := hp_27
            refine z_icmp_ge (tgt := 92) dX6_fill_30 (by decide) (by omega) (by omega) (fun c_30 => ?_) (fun c_30 => ?_)
            · refine z_iinc (j := 1) [(4, .int (iI (u + (-1)))), (5, .int (iI v)), (0, .ref (q 29)), (1, .ref (q (10 + b))), (2, .ref (q 24)), (3, .int (iI nn))] dX6_fill_92 rfl (by decide) rfl ?_
              refine z_goto (tgt := 16) dX6_fill_95 (by decide) ?_
              exact z_sub [(4, .int (iI (u + (-1)))), (0, .ref (q 29)), (1, .ref (q (10 + b))), (2, .ref (q 24)), (3, .int (iI nn))] [0, 2, 3, 4, 5] rfl (ih_16 (u + (-1)) za (by omega) (by omega) (hza) (fun t s h1 h2 h3 => by
            by_cases hk : t = u.toNat
            · rw [hk]; exact hzn s (by rw [hnn] at h3; omega)
            · exact hzW t s (by omega) h2 h3) (fun k hk => hz0 k (Or.inl (by omega))))
            · refine z_iload (j := 0) dX6_fill_33 rfl ?_
              refine z_bipush dX6_fill_35 (by decide) ?_
              refine z_icmp_ge (tgt := 92) dX6_fill_37 (by decide) (by omega) (by decide) (fun c_37 => ?_) (fun c_37 => ?_)
              · refine z_iinc (j := 1) [(4, .int (iI (u + (-1)))), (5, .int (iI v)), (0, .ref (q 29)), (1, .ref (q (10 + b))), (2, .ref (q 24)), (3, .int (iI nn))] dX6_fill_92 rfl (by decide) rfl ?_
                refine z_goto (tgt := 16) dX6_fill_95 (by decide) ?_
                exact z_sub [(4, .int (iI (u + (-1)))), (0, .ref (q 29)), (1, .ref (q (10 + b))), (2, .ref (q 24)), (3, .int (iI nn))] [0, 2, 3, 4, 5] rfl (ih_16 (u + (-1)) za (by omega) (by omega) (hza) (fun t s h1 h2 h3 => by
            by_cases hk : t = u.toNat
            · rw [hk]; exact hzn s (by rw [hnn] at h3; omega)
            · exact hzW t s (by omega) h2 h3) (fun k hk => hz0 k (Or.inl (by omega))))
              · refine z_aload_n (j := 4) dX6_fill_40 rfl rfl ?_
                refine z_iload (j := 1) dX6_fill_41 rfl ?_
                refine z_iload (j := 0) dX6_fill_43 rfl ?_
                refine z_callNi (As := [.int (iI v)]) (rest := [.int (iI u), .ref (q 24)]) (c_X7_cellOf  hq (by omega)) dX6_fill_45 gX6_fill_X7_cellOf_n33 nwm_X6_33 m_X6_fill_st_X7_cellOf m_X6_fill_in_X7_cellOf rfl cd_X7_cellOf ⟨Nat.le_of_ble_eq_true rfl, Nat.le_of_ble_eq_true rfl⟩ rfl rfl rfl (Nat.le_of_ble_eq_true rfl) ⟨Nat.zero_le _, Nat.zero_le _⟩ (fun r_45 g_45 hp_45 => ?_)
                obtain ⟨⟨_, rfl, rfl⟩, rfl⟩ := hp_45
                refine z_callVi (i := 24) (ci := 1) (As := [.int (iI u), .int (iI (v / 4))]) (rest := []) (c_X1_allow  hq hRdz (by omega) (by omega)) dX6_fill_48 gX6_fill_X1_allow rfl cd_X1_allow ⟨Nat.le_of_ble_eq_true rfl, Nat.le_of_ble_eq_true rfl⟩ rfl rfl (by omega) rfl rfl rfl (Nat.le_of_ble_eq_true rfl) ⟨Nat.zero_le _, Nat.zero_le _⟩ (fun r_48 g_48 hp_48 => ?_)
                obtain ⟨⟨h_48, rfl⟩ | ⟨h_48, rfl⟩, rfl⟩ := hp_48
                · refine z_if_eq (tgt := 86) dX6_fill_51 (by decide) (by decide) (fun h => absurd h (by decide)) (fun _ => ?_)
                  refine z_aload_n (j := 2) dX6_fill_54 rfl rfl ?_
                  refine z_getf (i := 29) (ci := 6) (k := 0) (v := .ref (q 30)) dX6_fill_55 m_X6_fill_f9 in_X6_fill_X6 rfl (by decide) rfl (by omega) rfl rfl ?_
                  refine z_iload (j := 1) dX6_fill_58 rfl ?_
                  refine z_bipush dX6_fill_60 (by decide) ?_
                  refine z_imul dX6_fill_62 ?_
                  refine z_iload (j := 0) dX6_fill_63 rfl ?_
                  refine z_iadd dX6_fill_65 ?_
                  refine z_iload (j := 1) dX6_fill_66 rfl ?_
                  refine z_iload_n (j := 5) dX6_fill_68 rfl rfl ?_
                  refine z_icmp_ne (tgt := 76) dX6_fill_69 (by decide) (by omega) (by omega) (fun c_69 => ?_) (fun c_69 => ?_)
                  · refine z_aload_n (j := 2) dX6_fill_76 rfl rfl ?_
                    refine z_aload_n (j := 3) dX6_fill_77 rfl rfl ?_
                    refine z_iload (j := 1) dX6_fill_78 rfl ?_
                    refine z_iload (j := 0) dX6_fill_80 rfl ?_
                    refine z_callVi (i := 29) (ci := 6) (As := [.ref (q (10 + b)), .int (iI u), .int (iI v)]) (rest := [.int (iI ((u * 64) + v)), .ref (q 30)]) (c_X6_waysByAnyAct (Bf := wayF (rvX xi xa b) (alX xi xa) nn.toNat (nn.toNat - (u.toNat + 1))) hq hb hRz (by omega) (by omega) (fun s hs => by
            have g1 := hzW (u.toNat + 1) s (by omega) (by omega) (by rw [hnn]; exact hs)
            have g2 := wayF_rng (R := (rvX xi xa b)) (al := (alX xi xa)) (n := nn.toNat) hRM.1 (nn.toNat - (u.toNat + 1)) (s : Int) (by omega)
            have g3 : (4 : Int) ^ (nn.toNat - (u.toNat + 1)) ≤ 4 ^ 6 := pow4_leN (by omega)
            have g4 : (4 : Int) ^ 6 = 4096 := by decide
            exact ⟨g1, g2.1, by omega⟩)) dX6_fill_82 gX6_fill_X6_waysByAnyAct rfl cd_X6_waysByAnyAct ⟨Nat.le_of_ble_eq_true rfl, Nat.le_of_ble_eq_true rfl⟩ rfl rfl (by omega) rfl rfl rfl (Nat.le_of_ble_eq_true rfl) ⟨Nat.zero_le _, Nat.zero_le _⟩ (fun r_82 g_82 hp_82 => ?_)
                    obtain ⟨⟨e_82, he_82, rfl⟩, rfl⟩ := hp_82
                    refine z_iast (i := 30) (g := za 16) 0 (cX cI cJ cZ cR q w d xi (va_up za 16 (va_up (za 16) ((u * 64) + v).toNat e_82))) dX6_fill_85 (by omega) rfl rfl (by omega) (by omega) (by omega) lx_ways ?_
                    refine z_iinc (j := 0) [(5, .int (iI (v + 1))), (4, .int (iI u)), (0, .ref (q 29)), (1, .ref (q (10 + b))), (2, .ref (q 24)), (3, .int (iI nn))] dX6_fill_86 rfl (by decide) rfl ?_
                    refine z_goto (tgt := 24) dX6_fill_89 (by decide) ?_
                    exact z_sub [(5, .int (iI (v + 1))), (4, .int (iI u)), (0, .ref (q 29)), (1, .ref (q (10 + b))), (2, .ref (q 24)), (3, .int (iI nn))] [0, 1, 2, 3, 4, 5] rfl (ih_24 (v + 1) (va_up za 16 (va_up (za 16) ((u * 64) + v).toNat e_82)) (by omega) (by omega) (by first | exact hza | exact fun k hk => by rw [up_n hk]; exact hza k hk) (by first | exact hzW | exact fun t s h1 h2 h3 => by rw [up_s, up_n (by omega)]; exact hzW t s h1 h2 h3) (by first | exact fun k hk => hz0 k (by omega) | exact fun k hk => by rw [up_s, up_n (by omega)]; exact hz0 k (by omega)) (by
              intro s hs
              first
                | (rw [up_s]
                   by_cases hk : s = v.toNat
                   · rw [show 64 * u.toNat + s = (u * 64 + v).toNat by omega, up_s, hk, castN hv.1]
                     have hal : (alX xi xa) u.toNat (v / 4) = true := by
                       rw [alX_iff hr8.2, castN (by omega)]
                       rw [hz14, hz15] at h_48
                       exact h_48
                     first
                       | (rw [show nn.toNat - u.toNat = 0 by omega, wayF, if_pos (by rw [show nn.toNat = u.toNat by omega]; exact hal)])
                       | (rw [he_82, hRze, show nn.toNat - u.toNat = (nn.toNat - (u.toNat + 1)) + 1 by omega, wayF, if_pos (by rw [show nn.toNat - (nn.toNat - (u.toNat + 1) + 1) = u.toNat by omega]; exact hal)])
                   · rw [up_n (by omega)]; exact hzn s (by omega))
                | (by_cases hk : s = v.toNat
                   · have hal : ¬ (alX xi xa) u.toNat (v / 4) = true := by
                       rw [alX_iff hr8.2, castN (by omega)]
                       rw [hz14, hz15] at h_48
                       exact h_48
                     rw [hk, hz0 _ (Or.inr ⟨by omega, by omega⟩), castN hv.1]
                     by_cases hz : nn.toNat - u.toNat = 0
                     · rw [hz, wayF, if_neg (by rw [show nn.toNat = u.toNat by omega]; exact hal)]
                     · rw [show nn.toNat - u.toNat = (nn.toNat - (u.toNat + 1)) + 1 by omega, wayF, if_neg (by rw [show nn.toNat - (nn.toNat - (u.toNat + 1) + 1) = u.toNat by omega]; exact hal)]
                   · exact hzn s (by omega))))
                  · refine z_iconst dX6_fill_72 ?_
                    refine z_goto (tgt := 85) dX6_fill_73 (by decide) ?_
                    refine z_iast (i := 30) (g := za 16) 0 (cX cI cJ cZ cR q w d xi (va_up za 16 (va_up (za 16) ((u * 64) + v).toNat 1))) dX6_fill_85 (by omega) rfl rfl (by omega) (by omega) (by omega) lx_ways ?_
                    refine z_iinc (j := 0) [(5, .int (iI (v + 1))), (4, .int (iI u)), (0, .ref (q 29)), (1, .ref (q (10 + b))), (2, .ref (q 24)), (3, .int (iI nn))] dX6_fill_86 rfl (by decide) rfl ?_
                    refine z_goto (tgt := 24) dX6_fill_89 (by decide) ?_
                    exact z_sub [(5, .int (iI (v + 1))), (4, .int (iI u)), (0, .ref (q 29)), (1, .ref (q (10 + b))), (2, .ref (q 24)), (3, .int (iI nn))] [0, 1, 2, 3, 4, 5] rfl (ih_24 (v + 1) (va_up za 16 (va_up (za 16) ((u * 64) + v).toNat 1)) (by omega) (by omega) (by first | exact hza | exact fun k hk => by rw [up_n hk]; exact hza k hk) (by first | exact hzW | exact fun t s h1 h2 h3 => by rw [up_s, up_n (by omega)]; exact hzW t s h1 h2 h3) (by first | exact fun k hk => hz0 k (by omega) | exact fun k hk => by rw [up_s, up_n (by omega)]; exact hz0 k (by omega)) (by
              intro s hs
              first
                | (rw [up_s]
                   by_cases hk : s = v.toNat
                   · rw [show 64 * u.toNat + s = (u * 64 + v).toNat by omega, up_s, hk, castN hv.1]
                     have hal : (alX xi xa) u.toNat (v / 4) = true := by
                       rw [alX_iff hr8.2, castN (by omega)]
                       rw [hz14, hz15] at h_48
                       exact h_48
                     first
                       | (rw [show nn.toNat - u.toNat = 0 by omega, wayF, if_pos (by rw [show nn.toNat = u.toNat by omega]; exact hal)])
                       | (rw [he_82, hRze, show nn.toNat - u.toNat = (nn.toNat - (u.toNat + 1)) + 1 by omega, wayF, if_pos (by rw [show nn.toNat - (nn.toNat - (u.toNat + 1) + 1) = u.toNat by omega]; exact hal)])
                   · rw [up_n (by omega)]; exact hzn s (by omega))
                | (by_cases hk : s = v.toNat
                   · have hal : ¬ (alX xi xa) u.toNat (v / 4) = true := by
                       rw [alX_iff hr8.2, castN (by omega)]
                       rw [hz14, hz15] at h_48
                       exact h_48
                     rw [hk, hz0 _ (Or.inr ⟨by omega, by omega⟩), castN hv.1]
                     by_cases hz : nn.toNat - u.toNat = 0
                     · rw [hz, wayF, if_neg (by rw [show nn.toNat = u.toNat by omega]; exact hal)]
                     · rw [show nn.toNat - u.toNat = (nn.toNat - (u.toNat + 1)) + 1 by omega, wayF, if_neg (by rw [show nn.toNat - (nn.toNat - (u.toNat + 1) + 1) = u.toNat by omega]; exact hal)]
                   · exact hzn s (by omega))))
                · refine z_if_eq (tgt := 86) dX6_fill_51 (by decide) (by decide) (fun _ => ?_) (fun h => absurd h (by decide))
                  refine z_iinc (j := 0) [(5, .int (iI (v + 1))), (4, .int (iI u)), (0, .ref (q 29)), (1, .ref (q (10 + b))), (2, .ref (q 24)), (3, .int (iI nn))] dX6_fill_86 rfl (by decide) rfl ?_
                  refine z_goto (tgt := 24) dX6_fill_89 (by decide) ?_
                  exact z_sub [(5, .int (iI (v + 1))), (4, .int (iI u)), (0, .ref (q 29)), (1, .ref (q (10 + b))), (2, .ref (q 24)), (3, .int (iI nn))] [0, 1, 2, 3, 4, 5] rfl (ih_24 (v + 1) za (by omega) (by omega) (by first | exact hza | exact fun k hk => by rw [up_n hk]; exact hza k hk) (by first | exact hzW | exact fun t s h1 h2 h3 => by rw [up_s, up_n (by omega)]; exact hzW t s h1 h2 h3) (by first | exact fun k hk => hz0 k (by omega) | exact fun k hk => by rw [up_s, up_n (by omega)]; exact hz0 k (by omega)) (by
              intro s hs
              first
                | (rw [up_s]
                   by_cases hk : s = v.toNat
                   · rw [show 64 * u.toNat + s = (u * 64 + v).toNat by omega, up_s, hk, castN hv.1]
                     have hal : (alX xi xa) u.toNat (v / 4) = true := by
                       rw [alX_iff hr8.2, castN (by omega)]
                       rw [hz14, hz15] at h_48
                       exact h_48
                     first
                       | (rw [show nn.toNat - u.toNat = 0 by omega, wayF, if_pos (by rw [show nn.toNat = u.toNat by omega]; exact hal)])
                       | (rw [he_82, hRze, show nn.toNat - u.toNat = (nn.toNat - (u.toNat + 1)) + 1 by omega, wayF, if_pos (by rw [show nn.toNat - (nn.toNat - (u.toNat + 1) + 1) = u.toNat by omega]; exact hal)])
                   · rw [up_n (by omega)]; exact hzn s (by omega))
                | (by_cases hk : s = v.toNat
                   · have hal : ¬ (alX xi xa) u.toNat (v / 4) = true := by
                       rw [alX_iff hr8.2, castN (by omega)]
                       rw [hz14, hz15] at h_48
                       exact h_48
                     rw [hk, hz0 _ (Or.inr ⟨by omega, by omega⟩), castN hv.1]
                     by_cases hz : nn.toNat - u.toNat = 0
                     · rw [hz, wayF, if_neg (by rw [show nn.toNat = u.toNat by omega]; exact hal)]
                     · rw [show nn.toNat - u.toNat = (nn.toNat - (u.toNat + 1)) + 1 by omega, wayF, if_neg (by rw [show nn.toNat - (nn.toNat - (u.toNat + 1) + 1) = u.toNat by omega]; exact hal)]
                   · exact hzn s (by omega))))
        exact z_sub [(5, .int (iI 0)), (4, .int (iI u)), (0, .ref (q 29)), (1, .ref (q (10 + b))), (2, .ref (q 24)), (3, .int (iI nn))] [0, 1, 2, 3, 4, 5] rfl (hl_24 _ 0 ya (Nat.lt_succ_self _) (by omega) (hya) (hW) (fun k hk => h0 k (by omega)) (fun s hs => absurd hs (by omega)))
  exact z_sub [(4, .int (iI (min nn 7))), (0, .ref (q 29)), (1, .ref (q (10 + b))), (2, .ref (q 24)), (3, .int (iI nn))] [0, 1, 2, 3, 4] rfl (hl_16 _ (min nn 7) (va_up xa 16 G) (Nat.lt_succ_self _) (⟨by omega, by omega⟩) (fun k hk => up_n hk) (fun t s h1 h2 => absurd h1 (by omega)) (fun k hk => by rw [up_s]; exact hG k (by omega)))
theorem cd_X6_firstActWithWays : yX6_firstActWithWays.cls = RX6 ∧ yX6_firstActWithWays.cls ≠ "java/lang/invoke/MethodHandle" ∧ yX6_firstActWithWays.cls ≠ "java/lang/invoke/VarHandle" ∧ (parseMethodDescriptor yX6_firstActWithWays.desc).map (fun d => d.parameters.length) = some 3 := ⟨rfl, by decide +kernel, by decide +kernel, by decide +kernel⟩
set_option maxHeartbeats 400000 in
set_option maxRecDepth 100000 in
theorem c_X6_actOf {l : Launch} {D : va_G} {cI cJ cZ cR : ClassId} {q : Nat → Nat} {w d : Nat} {xi : Nat → Int} {xa : Nat → Nat → Int} (hq : qOk 31 q) {b : Nat} {al : Nat → Int → Bool} {nn qq : Int} (hb : b < 2) (hR : RvOk xi xa b) (h1 : 1 ≤ xi (10 + b)) (hn : 0 ≤ nn ∧ nn ≤ 7) (hq2 : 0 ≤ qq ∧ qq ≤ 100) (hW : WayOk (rvX xi xa b) al nn.toNat (xa 16) 0) (hpos : 0 < wayF (rvX xi xa b) al nn.toNat nn.toNat (xi (12 + b))) : Cti l D vwCl (tysC cI cJ cZ cR) 31 q yX6_actOf wsX6_actOf ({ frames := 4, cells := 0, slots := 0, locals := 94 } : Room) [.ref (q 29), .ref (q (10 + b)), .int (iI nn), .int (iI qq)] (cX cI cJ cZ cR q w d xi xa) (fun (r : Int32) (g : Nat → va_E) => (∃ e : Int, (e = if qq < nn then fstW (rvX xi xa b) (wayF (rvX xi xa b) al nn.toNat (nn.toNat - qq.toNat - 1)) (sptW (rvX xi xa b) al nn.toNat (xi (12 + b)) qq.toNat) else -9) ∧ r = iI e) ∧ g = (cX cI cJ cZ cR q w d xi xa)) := by
  refine Cti.of (cc := cX6_actOf) (nL := 7) (own := RX6) (ret := (some .int)) (by decide) rfl rfl hq (Nat.le_of_ble_eq_true rfl) (fun p e s m args below meth c => ?_)
  obtain ⟨hN, hP, hK, hM, hD, hB⟩ := id hR
  have hRM := RvM_of hR
  have hnn : rN (rvX xi xa b) = xi (10 + b) := rfl
  refine z_aload_n (j := 1) dX6_actOf_0 rfl rfl ?_
  refine z_callVi (i := 10 + b) (ci := 2) (As := []) (rest := []) (c_X2_start  hq hb hR) dX6_actOf_1 gX6_actOf_X2_start rfl cd_X2_start ⟨Nat.le_of_ble_eq_true rfl, Nat.le_of_ble_eq_true rfl⟩ rfl rfl (by omega) (cX_rv hb) rfl rfl (Nat.le_of_ble_eq_true rfl) ⟨Nat.zero_le _, Nat.zero_le _⟩ (fun r_1 g_1 hp_1 => ?_)
  obtain ⟨⟨_, rfl, rfl⟩, rfl⟩ := hp_1
  refine z_istore [(4, .int (iI (xi (12 + b)))), (0, .ref (q 29)), (1, .ref (q (10 + b))), (2, .int (iI nn)), (3, .int (iI qq))] dX6_actOf_4 (by decide) rfl ?_
  refine z_iconst dX6_actOf_6 ?_
  refine z_istore [(5, .int (iI 0)), (4, .int (iI (xi (12 + b)))), (0, .ref (q 29)), (1, .ref (q (10 + b))), (2, .int (iI nn)), (3, .int (iI qq))] dX6_actOf_7 (by decide) rfl ?_
  have hl_9 : ∀ (N_9 : Nat) (u : Int) (sp : Int), (9 - u).toNat < N_9 → (0 ≤ u ∧ u ≤ nn ∧ u ≤ qq) → (sp = sptW (rvX xi xa b) al nn.toNat (xi (12 + b)) u.toNat) → ZMi l D vwCl (tysC cI cJ cZ cR) 31 q ({ frames := 4, cells := 0, slots := 0, locals := 94 } : Room) cX6_actOf 7 RX6 wsX6_actOf (some .int) (fun (r : Int32) (g : Nat → va_E) => (∃ e : Int, (e = if qq < nn then fstW (rvX xi xa b) (wayF (rvX xi xa b) al nn.toNat (nn.toNat - qq.toNat - 1)) (sptW (rvX xi xa b) al nn.toNat (xi (12 + b)) qq.toNat) else -9) ∧ r = iI e) ∧ g = (cX cI cJ cZ cR q w d xi xa)) p e s m args below meth c (cX cI cJ cZ cR q w d xi xa) 9 [(5, .int (iI u)), (4, .int (iI sp)), (0, .ref (q 29)), (1, .ref (q (10 + b))), (2, .int (iI nn)), (3, .int (iI qq))] [] := by
    intro N_9
    induction N_9 with
    | zero => intro u sp hm; exact absurd hm (Nat.not_lt_zero _)
    | succ N_9 ih_9 =>
      intro u sp hm_9 hu hsp
      have hpp := sptW_pos hRM.1 (al := al) (n := nn.toNat) (p := xi (12 + b)) (by rw [hnn]; omega) hpos u.toNat (by omega)
      rw [← hsp, hnn] at hpp
      refine z_iload (j := 0) dX6_actOf_9 rfl ?_
      refine z_iload_n (j := 4) dX6_actOf_11 rfl rfl ?_
      refine z_icmp_ge (tgt := 51) dX6_actOf_12 (by decide) (by omega) (by omega) (fun c_12 => ?_) (fun c_12 => ?_)
      · refine z_bipush dX6_actOf_51 (by decide) ?_
        exact z_iret dX6_actOf_53 ⟨⟨_, (by rw [if_neg (by omega)]), rfl⟩, rfl⟩
      · refine z_aload_n (j := 2) dX6_actOf_15 rfl rfl ?_
        refine z_aload_n (j := 3) dX6_actOf_16 rfl rfl ?_
        refine z_iload (j := 0) dX6_actOf_17 rfl ?_
        refine z_iload (j := 1) dX6_actOf_19 rfl ?_
        refine z_callVi (i := 29) (ci := 6) (As := [.ref (q (10 + b)), .int (iI u), .int (iI sp)]) (rest := []) (c_X6_firstActWithWays (Bf := wayF (rvX xi xa b) al nn.toNat (nn.toNat - u.toNat - 1)) hq hb hR (by omega) (by omega) (fun s hs => by
            have g1 := hW (u.toNat + 1) s (by omega) (by omega) (by rw [hnn]; exact hs)
            have g2 := wayF_rng (R := (rvX xi xa b)) (al := al) (n := nn.toNat) hRM.1 (nn.toNat - u.toNat - 1) (s : Int) (by omega)
            have g3 : (4 : Int) ^ (nn.toNat - u.toNat - 1) ≤ 4 ^ 6 := pow4_leN (by omega)
            have g4 : (4 : Int) ^ 6 = 4096 := by decide
            exact ⟨by rw [g1, show nn.toNat - (u.toNat + 1) = nn.toNat - u.toNat - 1 by omega], g2.1, by omega⟩)) dX6_actOf_21 gX6_actOf_X6_firstActWithWays rfl cd_X6_firstActWithWays ⟨Nat.le_of_ble_eq_true rfl, Nat.le_of_ble_eq_true rfl⟩ rfl rfl (by omega) rfl rfl rfl (Nat.le_of_ble_eq_true rfl) ⟨Nat.zero_le _, Nat.zero_le _⟩ (fun r_21 g_21 hp_21 => ?_)
        obtain ⟨⟨e_21, he_21, rfl⟩, rfl⟩ := hp_21
        have hpos2 := hpp.2
        rw [show nn.toNat - u.toNat = (nn.toNat - u.toNat - 1) + 1 by omega, wayF] at hpos2
        have hfr : 0 ≤ e_21 ∧ e_21 ≤ 3 := by
          rw [he_21]
          refine (fstW_is hRM.1 hpp.1.1 (fun s g1 _ => (wayF_rng hRM.1 _ s g1).1) ?_).2
          split at hpos2
          · exact hpos2
          · exact absurd hpos2 (by omega)
        refine z_istore [(6, .int (iI e_21)), (5, .int (iI u)), (4, .int (iI sp)), (0, .ref (q 29)), (1, .ref (q (10 + b))), (2, .int (iI nn)), (3, .int (iI qq))] dX6_actOf_24 (by decide) rfl ?_
        refine z_iload (j := 1) dX6_actOf_26 rfl ?_
        refine z_iload_n (j := 6) dX6_actOf_28 rfl rfl ?_
        refine z_icmp_ne (tgt := 35) dX6_actOf_29 (by decide) (by omega) (by omega) (fun c_29 => ?_) (fun c_29 => ?_)
        · refine z_aload_n (j := 4) dX6_actOf_35 rfl rfl ?_
          refine z_iload (j := 2) dX6_actOf_36 rfl ?_
          refine z_iload (j := 0) dX6_actOf_38 rfl ?_
          refine z_callVi (i := 10 + b) (ci := 2) (As := [.int (iI sp), .int (iI e_21)]) (rest := []) (c_X2_after  hq hb hR (by omega) (by omega)) dX6_actOf_40 gX6_actOf_X2_after rfl cd_X2_after ⟨Nat.le_of_ble_eq_true rfl, Nat.le_of_ble_eq_true rfl⟩ rfl rfl (by omega) (cX_rv hb) rfl rfl (Nat.le_of_ble_eq_true rfl) ⟨Nat.zero_le _, Nat.zero_le _⟩ (fun r_40 g_40 hp_40 => ?_)
          obtain ⟨⟨_, rfl, rfl⟩, rfl⟩ := hp_40
          refine z_istore [(4, .int (iI (aftA (rvX xi xa b) e_21 sp))), (6, .int (iI e_21)), (5, .int (iI u)), (0, .ref (q 29)), (1, .ref (q (10 + b))), (2, .int (iI nn)), (3, .int (iI qq))] dX6_actOf_43 (by decide) rfl ?_
          refine z_iinc (j := 2) [(5, .int (iI (u + 1))), (4, .int (iI (aftA (rvX xi xa b) e_21 sp))), (6, .int (iI e_21)), (0, .ref (q 29)), (1, .ref (q (10 + b))), (2, .int (iI nn)), (3, .int (iI qq))] dX6_actOf_45 rfl (by decide) rfl ?_
          refine z_goto (tgt := 9) dX6_actOf_48 (by decide) ?_
          exact z_sub [(5, .int (iI (u + 1))), (4, .int (iI (aftA (rvX xi xa b) e_21 sp))), (0, .ref (q 29)), (1, .ref (q (10 + b))), (2, .int (iI nn)), (3, .int (iI qq))] [0, 1, 3, 4, 5, 6] rfl (ih_9 (u + 1) (aftA (rvX xi xa b) e_21 sp) (by omega) (by omega) (by rw [stepN hu.1, sptW, ← hsp, ← he_21]))
        · refine z_iload (j := 0) dX6_actOf_32 rfl ?_
          exact z_iret dX6_actOf_34 ⟨⟨_, (by rw [if_pos (by omega), show qq.toNat = u.toNat by omega, ← hsp, ← he_21]), rfl⟩, rfl⟩
  exact z_sub [(5, .int (iI 0)), (4, .int (iI (xi (12 + b)))), (0, .ref (q 29)), (1, .ref (q (10 + b))), (2, .int (iI nn)), (3, .int (iI qq))] [0, 1, 2, 3, 4, 5] rfl (hl_9 _ 0 (xi (12 + b)) (Nat.lt_succ_self _) (by omega) (rfl))
