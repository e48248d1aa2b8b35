set_option maxHeartbeats 4000000 in
set_option maxRecDepth 100000 in
theorem c_X7_cellOf {l : Launch} {D : va_G} {cI cJ cZ cR : ClassId} {q : Nat → Nat} {w d : Nat} {xi : Nat → Int} {xa : Nat → Nat → Int} (hq : qOk 31 q) {z : Int} (hz : 0 ≤ z ∧ z < 2147483648) : Cti l D vwCl (tysC cI cJ cZ cR) 31 q yX7_cellOf wsX7_cellOf ({ frames := 0, cells := 0, slots := 0, locals := 0 } : Room) [.int (iI z)] (cX cI cJ cZ cR q w d xi xa) (fun (r : Int32) (g : Nat → va_E) => (∃ e : Int, (e = z / 4) ∧ r = iI e) ∧ g = (cX cI cJ cZ cR q w d xi xa)) := by
  refine Cti.of (cc := cX7_cellOf) (nL := 1) (own := RX7) (ret := (some .int)) (by decide) rfl rfl hq (Nat.le_of_ble_eq_true rfl) (fun p e s m args below meth c => ?_)
  refine z_iload_n (j := 0) dX7_cellOf_0 rfl rfl ?_
  refine z_iconst dX7_cellOf_1 ?_
  refine z_idiv dX7_cellOf_2 (by omega) (by omega) ?_
  exact z_iret dX7_cellOf_3 ⟨⟨_, (by omega), rfl⟩, rfl⟩
set_option maxHeartbeats 4000000 in
set_option maxRecDepth 100000 in
theorem c_X7_paceOf {l : Launch} {D : va_G} {cI cJ cZ cR : ClassId} {q : Nat → Nat} {w d : Nat} {xi : Nat → Int} {xa : Nat → Nat → Int} (hq : qOk 31 q) {z : Int} (hz : 0 ≤ z ∧ z < 2147483648) : Cti l D vwCl (tysC cI cJ cZ cR) 31 q yX7_paceOf wsX7_paceOf ({ frames := 0, cells := 0, slots := 0, locals := 0 } : Room) [.int (iI z)] (cX cI cJ cZ cR q w d xi xa) (fun (r : Int32) (g : Nat → va_E) => (∃ e : Int, (e = z % 4) ∧ r = iI e) ∧ g = (cX cI cJ cZ cR q w d xi xa)) := by
  refine Cti.of (cc := cX7_paceOf) (nL := 1) (own := RX7) (ret := (some .int)) (by decide) rfl rfl hq (Nat.le_of_ble_eq_true rfl) (fun p e s m args below meth c => ?_)
  refine z_iload_n (j := 0) dX7_paceOf_0 rfl rfl ?_
  refine z_iconst dX7_paceOf_1 ?_
  refine z_irem dX7_paceOf_2 (by omega) (by omega) ?_
  exact z_iret dX7_paceOf_3 ⟨⟨_, (by omega), rfl⟩, rfl⟩
set_option maxHeartbeats 4000000 in
set_option maxRecDepth 100000 in
theorem c_X7_asBit {l : Launch} {D : va_G} {cI cJ cZ cR : ClassId} {q : Nat → Nat} {w d : Nat} {xi : Nat → Int} {xa : Nat → Nat → Int} (hq : qOk 31 q) {z : Int} (hz : z = 0 ∨ z = 1) : Cti l D vwCl (tysC cI cJ cZ cR) 31 q yX7_asBit wsX7_asBit ({ frames := 0, cells := 0, slots := 0, locals := 0 } : Room) [.int (iI z)] (cX cI cJ cZ cR q w d xi xa) (fun (r : Int32) (g : Nat → va_E) => (∃ e : Int, (e = z) ∧ r = iI e) ∧ g = (cX cI cJ cZ cR q w d xi xa)) := by
  refine Cti.of (cc := cX7_asBit) (nL := 1) (own := RX7) (ret := (some .int)) (by decide) rfl rfl hq (Nat.le_of_ble_eq_true rfl) (fun p e s m args below meth c => ?_)
  refine z_iload_n (j := 0) dX7_asBit_0 rfl rfl ?_
  refine z_if_eq (tgt := 8) dX7_asBit_1 (by decide) (by omega) (fun c_1 => ?_) (fun c_1 => ?_)
  · refine z_iconst dX7_asBit_8 ?_
    exact z_iret dX7_asBit_9 ⟨⟨_, (by omega), rfl⟩, rfl⟩
  · refine z_iconst dX7_asBit_4 ?_
    refine z_goto (tgt := 9) dX7_asBit_5 (by decide) ?_
    exact z_iret dX7_asBit_9 ⟨⟨_, (by omega), rfl⟩, rfl⟩
set_option maxHeartbeats 4000000 in
set_option maxRecDepth 100000 in
theorem c_X7_isLane {l : Launch} {D : va_G} {cI cJ cZ cR : ClassId} {q : Nat → Nat} {w d : Nat} {xi : Nat → Int} {xa : Nat → Nat → Int} (hq : qOk 31 q) {z : Int} (hz : -2147483648 ≤ z ∧ z < 2147483648) : Cti l D vwCl (tysC cI cJ cZ cR) 31 q yX7_isLane wsX7_isLane ({ frames := 0, cells := 0, slots := 0, locals := 0 } : Room) [.int (iI z)] (cX cI cJ cZ cR q w d xi xa) (fun (r : Int32) (g : Nat → va_E) => (((0 ≤ z ∧ z ≤ 2) ∧ r = iI 1) ∨ (¬ (0 ≤ z ∧ z ≤ 2) ∧ r = iI 0)) ∧ g = (cX cI cJ cZ cR q w d xi xa)) := by
  refine Cti.of (cc := cX7_isLane) (nL := 1) (own := RX7) (ret := (some .boolean)) (by decide) rfl rfl hq (Nat.le_of_ble_eq_true rfl) (fun p e s m args below meth c => ?_)
  refine z_iload_n (j := 0) dX7_isLane_0 rfl rfl ?_
  refine z_if_lt (tgt := 13) dX7_isLane_1 (by decide) (by omega) (fun c_1 => ?_) (fun c_1 => ?_)
  · refine z_iconst dX7_isLane_13 ?_
    exact z_zret dX7_isLane_14 (Or.inl rfl) ⟨Or.inr ⟨(by omega), rfl⟩, rfl⟩
  · refine z_iload_n (j := 0) dX7_isLane_4 rfl rfl ?_
    refine z_iconst dX7_isLane_5 ?_
    refine z_icmp_gt (tgt := 13) dX7_isLane_6 (by decide) (by omega) (by decide) (fun c_6 => ?_) (fun c_6 => ?_)
    · refine z_iconst dX7_isLane_13 ?_
      exact z_zret dX7_isLane_14 (Or.inl rfl) ⟨Or.inr ⟨(by omega), rfl⟩, rfl⟩
    · refine z_iconst dX7_isLane_9 ?_
      refine z_goto (tgt := 14) dX7_isLane_10 (by decide) ?_
      exact z_zret dX7_isLane_14 (Or.inr rfl) ⟨Or.inl ⟨(by omega), rfl⟩, rfl⟩
set_option maxHeartbeats 4000000 in
set_option maxRecDepth 100000 in
theorem c_X7_isUpperOrLower {l : Launch} {D : va_G} {cI cJ cZ cR : ClassId} {q : Nat → Nat} {w d : Nat} {xi : Nat → Int} {xa : Nat → Nat → Int} (hq : qOk 31 q) {z : Int} (hz : -2147483648 ≤ z ∧ z < 2147483648) : Cti l D vwCl (tysC cI cJ cZ cR) 31 q yX7_isUpperOrLower wsX7_isUpperOrLower ({ frames := 0, cells := 0, slots := 0, locals := 0 } : Room) [.int (iI z)] (cX cI cJ cZ cR q w d xi xa) (fun (r : Int32) (g : Nat → va_E) => (((z = 0 ∨ z = 1) ∧ r = iI 1) ∨ (¬ (z = 0 ∨ z = 1) ∧ r = iI 0)) ∧ g = (cX cI cJ cZ cR q w d xi xa)) := by
  refine Cti.of (cc := cX7_isUpperOrLower) (nL := 1) (own := RX7) (ret := (some .boolean)) (by decide) rfl rfl hq (Nat.le_of_ble_eq_true rfl) (fun p e s m args below meth c => ?_)
  refine z_iload_n (j := 0) dX7_isUpperOrLower_0 rfl rfl ?_
  refine z_if_eq (tgt := 9) dX7_isUpperOrLower_1 (by decide) (by omega) (fun c_1 => ?_) (fun c_1 => ?_)
  · refine z_iconst dX7_isUpperOrLower_9 ?_
    refine z_goto (tgt := 14) dX7_isUpperOrLower_10 (by decide) ?_
    exact z_zret dX7_isUpperOrLower_14 (Or.inr rfl) ⟨Or.inl ⟨(by omega), rfl⟩, rfl⟩
  · refine z_iload_n (j := 0) dX7_isUpperOrLower_4 rfl rfl ?_
    refine z_iconst dX7_isUpperOrLower_5 ?_
    refine z_icmp_ne (tgt := 13) dX7_isUpperOrLower_6 (by decide) (by omega) (by decide) (fun c_6 => ?_) (fun c_6 => ?_)
    · refine z_iconst dX7_isUpperOrLower_13 ?_
      exact z_zret dX7_isUpperOrLower_14 (Or.inl rfl) ⟨Or.inr ⟨(by omega), rfl⟩, rfl⟩
    · refine z_iconst dX7_isUpperOrLower_9 ?_
      refine z_goto (tgt := 14) dX7_isUpperOrLower_10 (by decide) ?_
      exact z_zret dX7_isUpperOrLower_14 (Or.inr rfl) ⟨Or.inl ⟨(by omega), rfl⟩, rfl⟩
set_option maxHeartbeats 4000000 in
set_option maxRecDepth 100000 in
theorem c_X7_dryTenths {l : Launch} {D : va_G} {cI cJ cZ cR : ClassId} {q : Nat → Nat} {w d : Nat} {xi : Nat → Int} {xa : Nat → Nat → Int} (hq : qOk 31 q) {act h : Int} (ha : -2147483648 ≤ act ∧ act < 2147483648) (hh : 0 ≤ h ∧ h ≤ 9) : Cti l D vwCl (tysC cI cJ cZ cR) 31 q yX7_dryTenths wsX7_dryTenths ({ frames := 0, cells := 0, slots := 0, locals := 0 } : Room) [.int (iI act), .int (iI h)] (cX cI cJ cZ cR q w d xi xa) (fun (r : Int32) (g : Nat → va_E) => (∃ e : Int, (e = if act = 0 then 10 - h else if act = 2 then 10 - h / 2 else 10) ∧ r = iI e) ∧ g = (cX cI cJ cZ cR q w d xi xa)) := by
  refine Cti.of (cc := cX7_dryTenths) (nL := 2) (own := RX7) (ret := (some .int)) (by decide) rfl rfl hq (Nat.le_of_ble_eq_true rfl) (fun p e s m args below meth c => ?_)
  refine z_iload_n (j := 0) dX7_dryTenths_0 rfl rfl ?_
  by_cases k_1_0 : act = 0
  · refine z_lsw (off := 27) (tgt := 28) dX7_dryTenths_1 (by omega) (by decide) (by rw [k_1_0]; decide) (by decide) ?_
    refine z_bipush dX7_dryTenths_28 (by decide) ?_
    refine z_iload_n (j := 1) dX7_dryTenths_30 rfl rfl ?_
    refine z_isub dX7_dryTenths_31 ?_
    exact z_iret dX7_dryTenths_32 ⟨⟨_, (by first | omega | (split <;> first | omega | rfl)), rfl⟩, rfl⟩
  ·
    by_cases k_1_1 : act = 2
    · refine z_lsw (off := 32) (tgt := 33) dX7_dryTenths_1 (by omega) (by decide) (by rw [k_1_1]; decide) (by decide) ?_
      refine z_bipush dX7_dryTenths_33 (by decide) ?_
      refine z_iload_n (j := 1) dX7_dryTenths_35 rfl rfl ?_
      refine z_iconst dX7_dryTenths_36 ?_
      refine z_idiv dX7_dryTenths_37 (by omega) (by omega) ?_
      refine z_isub dX7_dryTenths_38 ?_
      exact z_iret dX7_dryTenths_39 ⟨⟨_, (by first | omega | (split <;> first | omega | rfl)), rfl⟩, rfl⟩
    ·
      refine z_lsw (off := 39) (tgt := 40) dX7_dryTenths_1 (by omega) (by decide) (by first | (show Op.lookupswitch.offset [(0, 27), (2, 32)] _ _ = _; rw [Op.lookupswitch.offset_cons, if_neg (fun h => k_1_0 h.symm), Op.lookupswitch.offset_cons, if_neg (fun h => k_1_1 h.symm)]; rfl) | (show Op.lookupswitch.offset [(0, 27), (2, 32)] _ _ = _; rw [Op.lookupswitch.offset_cons, if_neg k_1_0, Op.lookupswitch.offset_cons, if_neg k_1_1]; rfl)) (by decide) ?_
      refine z_bipush dX7_dryTenths_40 (by decide) ?_
      exact z_iret dX7_dryTenths_42 ⟨⟨_, (by first | omega | (split <;> first | omega | rfl)), rfl⟩, rfl⟩
theorem m_X2_isNone_f25 : Cond.fieldLink RX2 25 "PoleBehind$River" "count" "I" ∈ wsX2_isNone := List.mem_of_getElem? (i := 1) rfl
theorem in_X2_isNone_X2 : ∀ w ∈ wsX20, w ∈ wsX2_isNone := fun _ h => List.mem_cons_of_mem _ (List.mem_append_right _ h)
set_option maxHeartbeats 4000000 in
set_option maxRecDepth 100000 in
theorem c_X2_isNone {l : Launch} {D : va_G} {cI cJ cZ cR : ClassId} {q : Nat → Nat} {w d : Nat} {xi : Nat → Int} {xa : Nat → Nat → Int} (hq : qOk 31 q) {b : Nat} (hb : b < 2) (hR : RvOk xi xa b) : Cti l D vwCl (tysC cI cJ cZ cR) 31 q yX2_isNone wsX2_isNone ({ frames := 0, cells := 0, slots := 0, locals := 0 } : Room) [.ref (q (10 + b))] (cX cI cJ cZ cR q w d xi xa) (fun (r : Int32) (g : Nat → va_E) => (((xi (10 + b) = 0) ∧ r = iI 1) ∨ (¬ (xi (10 + b) = 0) ∧ r = iI 0)) ∧ g = (cX cI cJ cZ cR q w d xi xa)) := by
  refine Cti.of (cc := cX2_isNone) (nL := 1) (own := RX2) (ret := (some .boolean)) (by decide) rfl rfl hq (Nat.le_of_ble_eq_true rfl) (fun p e s m args below meth c => ?_)
  obtain ⟨hN, hP, hK, hM, hD, hB⟩ := id hR
  refine z_aload_n (j := 0) dX2_isNone_0 rfl rfl ?_
  refine z_getf (i := 10 + b) (ci := 2) (k := 4) (v := .int (iI (xi (10 + b)))) dX2_isNone_1 m_X2_isNone_f25 in_X2_isNone_X2 rfl (by decide) rfl (by omega) (cX_rv hb) rfl ?_
  refine z_if_ne (tgt := 11) dX2_isNone_4 (by decide) (by omega) (fun c_4 => ?_) (fun c_4 => ?_)
  · refine z_iconst dX2_isNone_11 ?_
    exact z_zret dX2_isNone_12 (Or.inl rfl) ⟨Or.inr ⟨(by omega), rfl⟩, rfl⟩
  · refine z_iconst dX2_isNone_7 ?_
    refine z_goto (tgt := 12) dX2_isNone_8 (by decide) ?_
    exact z_zret dX2_isNone_12 (Or.inr rfl) ⟨Or.inl ⟨(by omega), rfl⟩, rfl⟩
theorem m_X2_has_f25 : Cond.fieldLink RX2 25 "PoleBehind$River" "count" "I" ∈ wsX2_has := List.mem_of_getElem? (i := 1) rfl
theorem in_X2_has_X2 : ∀ w ∈ wsX20, w ∈ wsX2_has := fun _ h => List.mem_cons_of_mem _ (List.mem_append_right _ h)
set_option maxHeartbeats 4000000 in
set_option maxRecDepth 100000 in
theorem c_X2_has {l : Launch} {D : va_G} {cI cJ cZ cR : ClassId} {q : Nat → Nat} {w d : Nat} {xi : Nat → Int} {xa : Nat → Nat → Int} (hq : qOk 31 q) {b : Nat} {x : Int} (hb : b < 2) (hR : RvOk xi xa b) (hx : -2147483648 ≤ x ∧ x < 2147483648) : Cti l D vwCl (tysC cI cJ cZ cR) 31 q yX2_has wsX2_has ({ frames := 0, cells := 0, slots := 0, locals := 0 } : Room) [.ref (q (10 + b)), .int (iI x)] (cX cI cJ cZ cR q w d xi xa) (fun (r : Int32) (g : Nat → va_E) => (((0 ≤ x ∧ x < xi (10 + b)) ∧ r = iI 1) ∨ (¬ (0 ≤ x ∧ x < xi (10 + b)) ∧ r = iI 0)) ∧ g = (cX cI cJ cZ cR q w d xi xa)) := by
  refine Cti.of (cc := cX2_has) (nL := 2) (own := RX2) (ret := (some .boolean)) (by decide) rfl rfl hq (Nat.le_of_ble_eq_true rfl) (fun p e s m args below meth c => ?_)
  obtain ⟨hN, hP, hK, hM, hD, hB⟩ := id hR
  refine z_iload_n (j := 1) dX2_has_0 rfl rfl ?_
  refine z_if_lt (tgt := 16) dX2_has_1 (by decide) (by omega) (fun c_1 => ?_) (fun c_1 => ?_)
  · refine z_iconst dX2_has_16 ?_
    exact z_zret dX2_has_17 (Or.inl rfl) ⟨Or.inr ⟨(by omega), rfl⟩, rfl⟩
  · refine z_iload_n (j := 1) dX2_has_4 rfl rfl ?_
    refine z_aload_n (j := 0) dX2_has_5 rfl rfl ?_
    refine z_getf (i := 10 + b) (ci := 2) (k := 4) (v := .int (iI (xi (10 + b)))) dX2_has_6 m_X2_has_f25 in_X2_has_X2 rfl (by decide) rfl (by omega) (cX_rv hb) rfl ?_
    refine z_icmp_ge (tgt := 16) dX2_has_9 (by decide) (by omega) (by omega) (fun c_9 => ?_) (fun c_9 => ?_)
    · refine z_iconst dX2_has_16 ?_
      exact z_zret dX2_has_17 (Or.inl rfl) ⟨Or.inr ⟨(by omega), rfl⟩, rfl⟩
    · refine z_iconst dX2_has_12 ?_
      refine z_goto (tgt := 17) dX2_has_13 (by decide) ?_
      exact z_zret dX2_has_17 (Or.inr rfl) ⟨Or.inl ⟨(by omega), rfl⟩, rfl⟩
theorem m_X2_clear_f25 : Cond.fieldLink RX2 25 "PoleBehind$River" "count" "I" ∈ wsX2_clear := List.mem_of_getElem? (i := 1) rfl
theorem in_X2_clear_X2 : ∀ w ∈ wsX20, w ∈ wsX2_clear := fun _ h => List.mem_cons_of_mem _ (List.mem_append_right _ h)
theorem m_X2_clear_f29 : Cond.fieldLink RX2 29 "PoleBehind$River" "paceAtFirst" "I" ∈ wsX2_clear := List.mem_of_getElem? (i := 2) rfl
set_option maxHeartbeats 4000000 in
set_option maxRecDepth 100000 in
theorem c_X2_clear {l : Launch} {D : va_G} {cI cJ cZ cR : ClassId} {q : Nat → Nat} {w d : Nat} {xi : Nat → Int} {xa : Nat → Nat → Int} (hq : qOk 31 q) {b : Nat} (hb : b < 2) (hR : RvOk xi xa b) : Ctv l D vwCl (tysC cI cJ cZ cR) 31 q yX2_clear wsX2_clear ({ frames := 0, cells := 0, slots := 0, locals := 0 } : Room) [.ref (q (10 + b))] (cX cI cJ cZ cR q w d xi xa) (fun (g : Nat → va_E) => ∃ (xi' : Nat → Int), (xi' = va_up (va_up xi (10 + b) 0) (12 + b) 0) ∧ g = (cX cI cJ cZ cR q w d xi' xa)) := by
  refine Ctv.of (cc := cX2_clear) (nL := 1) (own := RX2) (ret := none) (by decide) rfl rfl hq (Nat.le_of_ble_eq_true rfl) (fun p e s m args below meth c => ?_)
  obtain ⟨hN, hP, hK, hM, hD, hB⟩ := id hR
  refine z_aload_n (j := 0) dX2_clear_0 rfl rfl ?_
  refine z_iconst dX2_clear_1 ?_
  refine z_putf (i := 10 + b) (ci := 2) (k := 4) (cX cI cJ cZ cR q w d (va_up xi (10 + b) 0) xa) dX2_clear_2 m_X2_clear_f25 in_X2_clear_X2 rfl (by decide) rfl (by omega) (cX_rv hb) tyX2_ok nmX2 rfl rfl rfl (Nat.le_of_ble_eq_true rfl) (lx_count hb) ?_
  refine z_aload_n (j := 0) dX2_clear_5 rfl rfl ?_
  refine z_iconst dX2_clear_6 ?_
  refine z_putf (i := 10 + b) (ci := 2) (k := 5) (cX cI cJ cZ cR q w d (va_up (va_up xi (10 + b) 0) (12 + b) 0) xa) dX2_clear_7 m_X2_clear_f29 in_X2_clear_X2 rfl (by decide) rfl (by omega) (cX_rv hb) tyX2_ok nmX2 rfl rfl rfl (Nat.le_of_ble_eq_true rfl) (lx_pace hb) ?_
  exact z_vret dX2_clear_10 ⟨_, (rfl), rfl⟩
theorem m_X2_add_f25 : Cond.fieldLink RX2 25 "PoleBehind$River" "count" "I" ∈ wsX2_add := List.mem_of_getElem? (i := 1) rfl
theorem in_X2_add_X2 : ∀ w ∈ wsX20, w ∈ wsX2_add := fun _ h => List.mem_cons_of_mem _ (List.mem_append_right _ h)
theorem m_X2_add_f9 : Cond.fieldLink RX2 9 "PoleBehind$River" "kindRow" "[I" ∈ wsX2_add := List.mem_of_getElem? (i := 2) rfl
theorem m_X2_add_f15 : Cond.fieldLink RX2 15 "PoleBehind$River" "mudRow" "[I" ∈ wsX2_add := List.mem_of_getElem? (i := 3) rfl
theorem m_X2_add_f18 : Cond.fieldLink RX2 18 "PoleBehind$River" "deepRow" "[Z" ∈ wsX2_add := List.mem_of_getElem? (i := 4) rfl
theorem m_X2_add_f22 : Cond.fieldLink RX2 22 "PoleBehind$River" "bridgeRow" "[Z" ∈ wsX2_add := List.mem_of_getElem? (i := 5) rfl
set_option maxHeartbeats 4000000 in
set_option maxRecDepth 100000 in
theorem c_X2_add {l : Launch} {D : va_G} {cI cJ cZ cR : ClassId} {q : Nat → Nat} {w d : Nat} {xi : Nat → Int} {xa : Nat → Nat → Int} (hq : qOk 31 q) {b : Nat} {kind deep : Int} (hb : b < 2) (hR : RvOk xi xa b) (hk : 0 ≤ kind ∧ kind ≤ 2) (hd : deep = 0 ∨ deep = 1) (hc : xi (10 + b) < 16) : Ctv l D vwCl (tysC cI cJ cZ cR) 31 q yX2_add wsX2_add ({ frames := 0, cells := 0, slots := 0, locals := 0 } : Room) [.ref (q (10 + b)), .int (iI kind), .int (iI deep)] (cX cI cJ cZ cR q w d xi xa) (fun (g : Nat → va_E) => ∃ (xi' : Nat → Int) (xa' : Nat → Nat → Int), (xi' = va_up xi (10 + b) (xi (10 + b) + 1) ∧ xa' = va_up (va_up (va_up (va_up xa (4 + b) (va_up (xa (4 + b)) (xi (10 + b)).toNat kind)) (6 + b) (va_up ((va_up xa (4 + b) (va_up (xa (4 + b)) (xi (10 + b)).toNat kind)) (6 + b)) (xi (10 + b)).toNat 0)) (8 + b) (va_up ((va_up (va_up xa (4 + b) (va_up (xa (4 + b)) (xi (10 + b)).toNat kind)) (6 + b) (va_up ((va_up xa (4 + b) (va_up (xa (4 + b)) (xi (10 + b)).toNat kind)) (6 + b)) (xi (10 + b)).toNat 0)) (8 + b)) (xi (10 + b)).toNat deep)) (10 + b) (va_up ((va_up (va_up (va_up xa (4 + b) (va_up (xa (4 + b)) (xi (10 + b)).toNat kind)) (6 + b) (va_up ((va_up xa (4 + b) (va_up (xa (4 + b)) (xi (10 + b)).toNat kind)) (6 + b)) (xi (10 + b)).toNat 0)) (8 + b) (va_up ((va_up (va_up xa (4 + b) (va_up (xa (4 + b)) (xi (10 + b)).toNat kind)) (6 + b) (va_up ((va_up xa (4 + b) (va_up (xa (4 + b)) (xi (10 + b)).toNat kind)) (6 + b)) (xi (10 + b)).toNat 0)) (8 + b)) (xi (10 + b)).toNat deep)) (10 + b)) (xi (10 + b)).toNat 0)) ∧ g = (cX cI cJ cZ cR q w d xi' xa')) := by
  refine Ctv.of (cc := cX2_add) (nL := 3) (own := RX2) (ret := none) (by decide) rfl rfl hq (Nat.le_of_ble_eq_true rfl) (fun p e s m args below meth c => ?_)
  obtain ⟨hN, hP, hK, hM, hD, hB⟩ := id hR
  refine z_aload_n (j := 0) dX2_add_0 rfl rfl ?_
  refine z_getf (i := 10 + b) (ci := 2) (k := 4) (v := .int (iI (xi (10 + b)))) dX2_add_1 m_X2_add_f25 in_X2_add_X2 rfl (by decide) rfl (by omega) (cX_rv hb) rfl ?_
  refine z_bipush dX2_add_4 (by decide) ?_
  refine z_icmp_ge (tgt := 59) dX2_add_6 (by decide) (by omega) (by decide) (fun h => absurd h (by omega)) (fun c_6 => ?_)
  refine z_aload_n (j := 0) dX2_add_9 rfl rfl ?_
  refine z_getf (i := 10 + b) (ci := 2) (k := 0) (v := .ref (q (12 + b))) dX2_add_10 m_X2_add_f9 in_X2_add_X2 rfl (by decide) rfl (by omega) (cX_rv hb) rfl ?_
  refine z_aload_n (j := 0) dX2_add_13 rfl rfl ?_
  refine z_getf (i := 10 + b) (ci := 2) (k := 4) (v := .int (iI (xi (10 + b)))) dX2_add_14 m_X2_add_f25 in_X2_add_X2 rfl (by decide) rfl (by omega) (cX_rv hb) rfl ?_
  refine z_iload_n (j := 1) dX2_add_17 rfl rfl ?_
  refine z_iast (i := 12 + b) (g := xa (4 + b)) 0 (cX cI cJ cZ cR q w d xi (va_up xa (4 + b) (va_up (xa (4 + b)) (xi (10 + b)).toNat kind))) dX2_add_18 (by omega) (cX_kind hb) rfl (by omega) (by omega) (by omega) (lx_akind hb) ?_
  refine z_aload_n (j := 0) dX2_add_19 rfl rfl ?_
  refine z_getf (i := 10 + b) (ci := 2) (k := 1) (v := .ref (q (14 + b))) dX2_add_20 m_X2_add_f15 in_X2_add_X2 rfl (by decide) rfl (by omega) (cX_rv hb) rfl ?_
  refine z_aload_n (j := 0) dX2_add_23 rfl rfl ?_
  refine z_getf (i := 10 + b) (ci := 2) (k := 4) (v := .int (iI (xi (10 + b)))) dX2_add_24 m_X2_add_f25 in_X2_add_X2 rfl (by decide) rfl (by omega) (cX_rv hb) rfl ?_
  refine z_iconst dX2_add_27 ?_
  refine z_iast (i := 14 + b) (g := (va_up xa (4 + b) (va_up (xa (4 + b)) (xi (10 + b)).toNat kind)) (6 + b)) 0 (cX cI cJ cZ cR q w d xi (va_up (va_up xa (4 + b) (va_up (xa (4 + b)) (xi (10 + b)).toNat kind)) (6 + b) (va_up ((va_up xa (4 + b) (va_up (xa (4 + b)) (xi (10 + b)).toNat kind)) (6 + b)) (xi (10 + b)).toNat 0))) dX2_add_28 (by omega) (cX_mud hb) rfl (by omega) (by omega) (by omega) (lx_amud hb) ?_
  refine z_aload_n (j := 0) dX2_add_29 rfl rfl ?_
  refine z_getf (i := 10 + b) (ci := 2) (k := 2) (v := .ref (q (16 + b))) dX2_add_30 m_X2_add_f18 in_X2_add_X2 rfl (by decide) rfl (by omega) (cX_rv hb) rfl ?_
  refine z_aload_n (j := 0) dX2_add_33 rfl rfl ?_
  refine z_getf (i := 10 + b) (ci := 2) (k := 4) (v := .int (iI (xi (10 + b)))) dX2_add_34 m_X2_add_f25 in_X2_add_X2 rfl (by decide) rfl (by omega) (cX_rv hb) rfl ?_
  refine z_iload_n (j := 2) dX2_add_37 rfl rfl ?_
  refine z_zast (i := 16 + b) (g := (va_up (va_up xa (4 + b) (va_up (xa (4 + b)) (xi (10 + b)).toNat kind)) (6 + b) (va_up ((va_up xa (4 + b) (va_up (xa (4 + b)) (xi (10 + b)).toNat kind)) (6 + b)) (xi (10 + b)).toNat 0)) (8 + b)) 2 (cX cI cJ cZ cR q w d xi (va_up (va_up (va_up xa (4 + b) (va_up (xa (4 + b)) (xi (10 + b)).toNat kind)) (6 + b) (va_up ((va_up xa (4 + b) (va_up (xa (4 + b)) (xi (10 + b)).toNat kind)) (6 + b)) (xi (10 + b)).toNat 0)) (8 + b) (va_up ((va_up (va_up xa (4 + b) (va_up (xa (4 + b)) (xi (10 + b)).toNat kind)) (6 + b) (va_up ((va_up xa (4 + b) (va_up (xa (4 + b)) (xi (10 + b)).toNat kind)) (6 + b)) (xi (10 + b)).toNat 0)) (8 + b)) (xi (10 + b)).toNat deep))) dX2_add_38 (by omega) (cX_deep hb) rfl (by omega) (by omega) (by omega) (by omega) (lx_adeep hb) ?_
  refine z_aload_n (j := 0) dX2_add_39 rfl rfl ?_
  refine z_getf (i := 10 + b) (ci := 2) (k := 3) (v := .ref (q (18 + b))) dX2_add_40 m_X2_add_f22 in_X2_add_X2 rfl (by decide) rfl (by omega) (cX_rv hb) rfl ?_
  refine z_aload_n (j := 0) dX2_add_43 rfl rfl ?_
  refine z_getf (i := 10 + b) (ci := 2) (k := 4) (v := .int (iI (xi (10 + b)))) dX2_add_44 m_X2_add_f25 in_X2_add_X2 rfl (by decide) rfl (by omega) (cX_rv hb) rfl ?_
  refine z_iconst dX2_add_47 ?_
  refine z_zast (i := 18 + b) (g := (va_up (va_up (va_up xa (4 + b) (va_up (xa (4 + b)) (xi (10 + b)).toNat kind)) (6 + b) (va_up ((va_up xa (4 + b) (va_up (xa (4 + b)) (xi (10 + b)).toNat kind)) (6 + b)) (xi (10 + b)).toNat 0)) (8 + b) (va_up ((va_up (va_up xa (4 + b) (va_up (xa (4 + b)) (xi (10 + b)).toNat kind)) (6 + b) (va_up ((va_up xa (4 + b) (va_up (xa (4 + b)) (xi (10 + b)).toNat kind)) (6 + b)) (xi (10 + b)).toNat 0)) (8 + b)) (xi (10 + b)).toNat deep)) (10 + b)) 2 (cX cI cJ cZ cR q w d xi (va_up (va_up (va_up (va_up xa (4 + b) (va_up (xa (4 + b)) (xi (10 + b)).toNat kind)) (6 + b) (va_up ((va_up xa (4 + b) (va_up (xa (4 + b)) (xi (10 + b)).toNat kind)) (6 + b)) (xi (10 + b)).toNat 0)) (8 + b) (va_up ((va_up (va_up xa (4 + b) (va_up (xa (4 + b)) (xi (10 + b)).toNat kind)) (6 + b) (va_up ((va_up xa (4 + b) (va_up (xa (4 + b)) (xi (10 + b)).toNat kind)) (6 + b)) (xi (10 + b)).toNat 0)) (8 + b)) (xi (10 + b)).toNat deep)) (10 + b) (va_up ((va_up (va_up (va_up xa (4 + b) (va_up (xa (4 + b)) (xi (10 + b)).toNat kind)) (6 + b) (va_up ((va_up xa (4 + b) (va_up (xa (4 + b)) (xi (10 + b)).toNat kind)) (6 + b)) (xi (10 + b)).toNat 0)) (8 + b) (va_up ((va_up (va_up xa (4 + b) (va_up (xa (4 + b)) (xi (10 + b)).toNat kind)) (6 + b) (va_up ((va_up xa (4 + b) (va_up (xa (4 + b)) (xi (10 + b)).toNat kind)) (6 + b)) (xi (10 + b)).toNat 0)) (8 + b)) (xi (10 + b)).toNat deep)) (10 + b)) (xi (10 + b)).toNat 0))) dX2_add_48 (by omega) (cX_brid hb) rfl (by omega) (by omega) (by omega) (Or.inl rfl) (lx_abrid hb) ?_
  refine z_aload_n (j := 0) dX2_add_49 rfl rfl ?_
  refine z_dup dX2_add_50 rfl ?_
  refine z_getf (i := 10 + b) (ci := 2) (k := 4) (v := .int (iI (xi (10 + b)))) dX2_add_51 m_X2_add_f25 in_X2_add_X2 rfl (by decide) rfl (by omega) (cX_rv hb) rfl ?_
  refine z_iconst dX2_add_54 ?_
  refine z_iadd dX2_add_55 ?_
  refine z_putf (i := 10 + b) (ci := 2) (k := 4) (cX cI cJ cZ cR q w d (va_up xi (10 + b) ((xi (10 + b)) + 1)) (va_up (va_up (va_up (va_up xa (4 + b) (va_up (xa (4 + b)) (xi (10 + b)).toNat kind)) (6 + b) (va_up ((va_up xa (4 + b) (va_up (xa (4 + b)) (xi (10 + b)).toNat kind)) (6 + b)) (xi (10 + b)).toNat 0)) (8 + b) (va_up ((va_up (va_up xa (4 + b) (va_up (xa (4 + b)) (xi (10 + b)).toNat kind)) (6 + b) (va_up ((va_up xa (4 + b) (va_up (xa (4 + b)) (xi (10 + b)).toNat kind)) (6 + b)) (xi (10 + b)).toNat 0)) (8 + b)) (xi (10 + b)).toNat deep)) (10 + b) (va_up ((va_up (va_up (va_up xa (4 + b) (va_up (xa (4 + b)) (xi (10 + b)).toNat kind)) (6 + b) (va_up ((va_up xa (4 + b) (va_up (xa (4 + b)) (xi (10 + b)).toNat kind)) (6 + b)) (xi (10 + b)).toNat 0)) (8 + b) (va_up ((va_up (va_up xa (4 + b) (va_up (xa (4 + b)) (xi (10 + b)).toNat kind)) (6 + b) (va_up ((va_up xa (4 + b) (va_up (xa (4 + b)) (xi (10 + b)).toNat kind)) (6 + b)) (xi (10 + b)).toNat 0)) (8 + b)) (xi (10 + b)).toNat deep)) (10 + b)) (xi (10 + b)).toNat 0))) dX2_add_56 m_X2_add_f25 in_X2_add_X2 rfl (by decide) rfl (by omega) (cX_rv hb) tyX2_ok nmX2 rfl rfl rfl (Nat.le_of_ble_eq_true rfl) (lx_count hb) ?_
  exact z_vret dX2_add_59 ⟨_, _, (⟨rfl, rfl⟩), rfl⟩
theorem cd_X2_has : yX2_has.cls = RX2 ∧ yX2_has.cls ≠ "java/lang/invoke/MethodHandle" ∧ yX2_has.cls ≠ "java/lang/invoke/VarHandle" ∧ (parseMethodDescriptor yX2_has.desc).map (fun d => d.parameters.length) = some 1 := ⟨rfl, by decide +kernel, by decide +kernel, by decide +kernel⟩
theorem m_X2_setMud_f15 : Cond.fieldLink RX2 15 "PoleBehind$River" "mudRow" "[I" ∈ wsX2_setMud := List.mem_of_getElem? (i := 1) rfl
theorem in_X2_setMud_X2 : ∀ w ∈ wsX20, w ∈ wsX2_setMud := fun _ h => List.mem_cons_of_mem _ (List.mem_append_right _ h)
set_option maxHeartbeats 4000000 in
set_option maxRecDepth 100000 in
theorem c_X2_setMud {l : Launch} {D : va_G} {cI cJ cZ cR : ClassId} {q : Nat → Nat} {w d : Nat} {xi : Nat → Int} {xa : Nat → Nat → Int} (hq : qOk 31 q) {b : Nat} {x mm : Int} (hb : b < 2) (hR : RvOk xi xa b) (hx : -2147483648 ≤ x ∧ x < 2147483648) (hm : 0 ≤ mm ∧ mm ≤ 9) : Ctv l D vwCl (tysC cI cJ cZ cR) 31 q yX2_setMud wsX2_setMud ({ frames := 1, cells := 0, slots := 0, locals := 21 } : Room) [.ref (q (10 + b)), .int (iI x), .int (iI mm)] (cX cI cJ cZ cR q w d xi xa) (fun (g : Nat → va_E) => ∃ (xa' : Nat → Nat → Int), (xa' = if 0 ≤ x ∧ x < xi (10 + b) then va_up xa (6 + b) (va_up (xa (6 + b)) x.toNat mm) else xa) ∧ g = (cX cI cJ cZ cR q w d xi xa')) := by
  refine Ctv.of (cc := cX2_setMud) (nL := 3) (own := RX2) (ret := none) (by decide) rfl rfl hq (Nat.le_of_ble_eq_true rfl) (fun p e s m args below meth c => ?_)
  obtain ⟨hN, hP, hK, hM, hD, hB⟩ := id hR
  refine z_aload_n (j := 0) dX2_setMud_0 rfl rfl ?_
  refine z_iload_n (j := 1) dX2_setMud_1 rfl rfl ?_
  refine z_callVi (i := 10 + b) (ci := 2) (As := [.int (iI x)]) (rest := []) (c_X2_has  hq hb hR (by omega)) dX2_setMud_2 gX2_setMud_X2_has rfl cd_X2_has ⟨Nat.le_of_ble_eq_true rfl, Nat.le_of_ble_eq_true rfl⟩ rfl rfl (by omega) (cX_rv hb) rfl rfl (Nat.le_of_ble_eq_true rfl) ⟨Nat.zero_le _, Nat.zero_le _⟩ (fun r_2 g_2 hp_2 => ?_)
  obtain ⟨⟨h_2, rfl⟩ | ⟨h_2, rfl⟩, rfl⟩ := hp_2
  · refine z_if_eq (tgt := 15) dX2_setMud_5 (by decide) (by decide) (fun h => absurd h (by decide)) (fun _ => ?_)
    refine z_aload_n (j := 0) dX2_setMud_8 rfl rfl ?_
    refine z_getf (i := 10 + b) (ci := 2) (k := 1) (v := .ref (q (14 + b))) dX2_setMud_9 m_X2_setMud_f15 in_X2_setMud_X2 rfl (by decide) rfl (by omega) (cX_rv hb) rfl ?_
    refine z_iload_n (j := 1) dX2_setMud_12 rfl rfl ?_
    refine z_iload_n (j := 2) dX2_setMud_13 rfl rfl ?_
    refine z_iast (i := 14 + b) (g := xa (6 + b)) 0 (cX cI cJ cZ cR q w d xi (va_up xa (6 + b) (va_up (xa (6 + b)) x.toNat mm))) dX2_setMud_14 (by omega) (cX_mud hb) rfl (by omega) (by omega) (by omega) (lx_amud hb) ?_
    exact z_vret dX2_setMud_15 ⟨_, (by first | rw [if_pos h_2] | rw [if_neg h_2]), rfl⟩
  · refine z_if_eq (tgt := 15) dX2_setMud_5 (by decide) (by decide) (fun _ => ?_) (fun h => absurd h (by decide))
    exact z_vret dX2_setMud_15 ⟨_, (by first | rw [if_pos h_2] | rw [if_neg h_2]), rfl⟩
theorem m_X2_setBridged_f22 : Cond.fieldLink RX2 22 "PoleBehind$River" "bridgeRow" "[Z" ∈ wsX2_setBridged := List.mem_of_getElem? (i := 1) rfl
theorem in_X2_setBridged_X2 : ∀ w ∈ wsX20, w ∈ wsX2_setBridged := fun _ h => List.mem_cons_of_mem _ (List.mem_append_right _ h)
set_option maxHeartbeats 4000000 in
set_option maxRecDepth 100000 in
theorem c_X2_setBridged {l : Launch} {D : va_G} {cI cJ cZ cR : ClassId} {q : Nat → Nat} {w d : Nat} {xi : Nat → Int} {xa : Nat → Nat → Int} (hq : qOk 31 q) {b : Nat} {x t : Int} (hb : b < 2) (hR : RvOk xi xa b) (hx : -2147483648 ≤ x ∧ x < 2147483648) (ht : t = 0 ∨ t = 1) : Ctv l D vwCl (tysC cI cJ cZ cR) 31 q yX2_setBridged wsX2_setBridged ({ frames := 1, cells := 0, slots := 0, locals := 21 } : Room) [.ref (q (10 + b)), .int (iI x), .int (iI t)] (cX cI cJ cZ cR q w d xi xa) (fun (g : Nat → va_E) => ∃ (xa' : Nat → Nat → Int), (xa' = if 0 ≤ x ∧ x < xi (10 + b) then va_up xa (10 + b) (va_up (xa (10 + b)) x.toNat t) else xa) ∧ g = (cX cI cJ cZ cR q w d xi xa')) := by
  refine Ctv.of (cc := cX2_setBridged) (nL := 3) (own := RX2) (ret := none) (by decide) rfl rfl hq (Nat.le_of_ble_eq_true rfl) (fun p e s m args below meth c => ?_)
  obtain ⟨hN, hP, hK, hM, hD, hB⟩ := id hR
  refine z_aload_n (j := 0) dX2_setBridged_0 rfl rfl ?_
  refine z_iload_n (j := 1) dX2_setBridged_1 rfl rfl ?_
  refine z_callVi (i := 10 + b) (ci := 2) (As := [.int (iI x)]) (rest := []) (c_X2_has  hq hb hR (by omega)) dX2_setBridged_2 gX2_setBridged_X2_has rfl cd_X2_has ⟨Nat.le_of_ble_eq_true rfl, Nat.le_of_ble_eq_true rfl⟩ rfl rfl (by omega) (cX_rv hb) rfl rfl (Nat.le_of_ble_eq_true rfl) ⟨Nat.zero_le _, Nat.zero_le _⟩ (fun r_2 g_2 hp_2 => ?_)
  obtain ⟨⟨h_2, rfl⟩ | ⟨h_2, rfl⟩, rfl⟩ := hp_2
  · refine z_if_eq (tgt := 15) dX2_setBridged_5 (by decide) (by decide) (fun h => absurd h (by decide)) (fun _ => ?_)
    refine z_aload_n (j := 0) dX2_setBridged_8 rfl rfl ?_
    refine z_getf (i := 10 + b) (ci := 2) (k := 3) (v := .ref (q (18 + b))) dX2_setBridged_9 m_X2_setBridged_f22 in_X2_setBridged_X2 rfl (by decide) rfl (by omega) (cX_rv hb) rfl ?_
    refine z_iload_n (j := 1) dX2_setBridged_12 rfl rfl ?_
    refine z_iload_n (j := 2) dX2_setBridged_13 rfl rfl ?_
    refine z_zast (i := 18 + b) (g := xa (10 + b)) 2 (cX cI cJ cZ cR q w d xi (va_up xa (10 + b) (va_up (xa (10 + b)) x.toNat t))) dX2_setBridged_14 (by omega) (cX_brid hb) rfl (by omega) (by omega) (by omega) (by omega) (lx_abrid hb) ?_
    exact z_vret dX2_setBridged_15 ⟨_, (by first | rw [if_pos h_2] | rw [if_neg h_2]), rfl⟩
  · refine z_if_eq (tgt := 15) dX2_setBridged_5 (by decide) (by decide) (fun _ => ?_) (fun h => absurd h (by decide))
    exact z_vret dX2_setBridged_15 ⟨_, (by first | rw [if_pos h_2] | rw [if_neg h_2]), rfl⟩
theorem m_X2_kindOf_f9 : Cond.fieldLink RX2 9 "PoleBehind$River" "kindRow" "[I" ∈ wsX2_kindOf := List.mem_of_getElem? (i := 1) rfl
theorem in_X2_kindOf_X2 : ∀ w ∈ wsX20, w ∈ wsX2_kindOf := fun _ h => List.mem_cons_of_mem _ (List.mem_append_right _ h)
set_option maxHeartbeats 4000000 in
set_option maxRecDepth 100000 in
theorem c_X2_kindOf {l : Launch} {D : va_G} {cI cJ cZ cR : ClassId} {q : Nat → Nat} {w d : Nat} {xi : Nat → Int} {xa : Nat → Nat → Int} (hq : qOk 31 q) {b : Nat} {x : Int} (hb : b < 2) (hR : RvOk xi xa b) (hx : -2147483648 ≤ x ∧ x < 2147483648) : Cti l D vwCl (tysC cI cJ cZ cR) 31 q yX2_kindOf wsX2_kindOf ({ frames := 1, cells := 0, slots := 0, locals := 21 } : Room) [.ref (q (10 + b)), .int (iI x)] (cX cI cJ cZ cR q w d xi xa) (fun (r : Int32) (g : Nat → va_E) => (∃ e : Int, (e = if 0 ≤ x ∧ x < xi (10 + b) then xa (4 + b) x.toNat else 0) ∧ r = iI e) ∧ g = (cX cI cJ cZ cR q w d xi xa)) := by
  refine Cti.of (cc := cX2_kindOf) (nL := 2) (own := RX2) (ret := (some .int)) (by decide) rfl rfl hq (Nat.le_of_ble_eq_true rfl) (fun p e s m args below meth c => ?_)
  obtain ⟨hN, hP, hK, hM, hD, hB⟩ := id hR
  refine z_aload_n (j := 0) dX2_kindOf_0 rfl rfl ?_
  refine z_iload_n (j := 1) dX2_kindOf_1 rfl rfl ?_
  refine z_callVi (i := 10 + b) (ci := 2) (As := [.int (iI x)]) (rest := []) (c_X2_has  hq hb hR (by omega)) dX2_kindOf_2 gX2_kindOf_X2_has rfl cd_X2_has ⟨Nat.le_of_ble_eq_true rfl, Nat.le_of_ble_eq_true rfl⟩ rfl rfl (by omega) (cX_rv hb) rfl rfl (Nat.le_of_ble_eq_true rfl) ⟨Nat.zero_le _, Nat.zero_le _⟩ (fun r_2 g_2 hp_2 => ?_)
  obtain ⟨⟨h_2, rfl⟩ | ⟨h_2, rfl⟩, rfl⟩ := hp_2
  · refine z_if_eq (tgt := 17) dX2_kindOf_5 (by decide) (by decide) (fun h => absurd h (by decide)) (fun _ => ?_)
    refine z_aload_n (j := 0) dX2_kindOf_8 rfl rfl ?_
    refine z_getf (i := 10 + b) (ci := 2) (k := 0) (v := .ref (q (12 + b))) dX2_kindOf_9 m_X2_kindOf_f9 in_X2_kindOf_X2 rfl (by decide) rfl (by omega) (cX_rv hb) rfl ?_
    refine z_iload_n (j := 1) dX2_kindOf_12 rfl rfl ?_
    refine z_iald (i := 12 + b) (g := xa (4 + b)) 0 dX2_kindOf_13 (by omega) (cX_kind hb) rfl (by omega) (by omega) (by omega) ?_
    refine z_goto (tgt := 18) dX2_kindOf_14 (by decide) ?_
    exact z_iret dX2_kindOf_18 ⟨⟨_, (by first | rw [if_pos h_2] | rw [if_neg h_2]), rfl⟩, rfl⟩
  · refine z_if_eq (tgt := 17) dX2_kindOf_5 (by decide) (by decide) (fun _ => ?_) (fun h => absurd h (by decide))
    refine z_iconst dX2_kindOf_17 ?_
    exact z_iret dX2_kindOf_18 ⟨⟨_, (by first | rw [if_pos h_2] | rw [if_neg h_2]), rfl⟩, rfl⟩
theorem m_X2_mudOf_f15 : Cond.fieldLink RX2 15 "PoleBehind$River" "mudRow" "[I" ∈ wsX2_mudOf := List.mem_of_getElem? (i := 1) rfl
theorem in_X2_mudOf_X2 : ∀ w ∈ wsX20, w ∈ wsX2_mudOf := fun _ h => List.mem_cons_of_mem _ (List.mem_append_right _ h)
set_option maxHeartbeats 4000000 in
set_option maxRecDepth 100000 in
theorem c_X2_mudOf {l : Launch} {D : va_G} {cI cJ cZ cR : ClassId} {q : Nat → Nat} {w d : Nat} {xi : Nat → Int} {xa : Nat → Nat → Int} (hq : qOk 31 q) {b : Nat} {x : Int} (hb : b < 2) (hR : RvOk xi xa b) (hx : -2147483648 ≤ x ∧ x < 2147483648) : Cti l D vwCl (tysC cI cJ cZ cR) 31 q yX2_mudOf wsX2_mudOf ({ frames := 1, cells := 0, slots := 0, locals := 21 } : Room) [.ref (q (10 + b)), .int (iI x)] (cX cI cJ cZ cR q w d xi xa) (fun (r : Int32) (g : Nat → va_E) => (∃ e : Int, (e = if 0 ≤ x ∧ x < xi (10 + b) then xa (6 + b) x.toNat else 0) ∧ r = iI e) ∧ g = (cX cI cJ cZ cR q w d xi xa)) := by
  refine Cti.of (cc := cX2_mudOf) (nL := 2) (own := RX2) (ret := (some .int)) (by decide) rfl rfl hq (Nat.le_of_ble_eq_true rfl) (fun p e s m args below meth c => ?_)
  obtain ⟨hN, hP, hK, hM, hD, hB⟩ := id hR
  refine z_aload_n (j := 0) dX2_mudOf_0 rfl rfl ?_
  refine z_iload_n (j := 1) dX2_mudOf_1 rfl rfl ?_
  refine z_callVi (i := 10 + b) (ci := 2) (As := [.int (iI x)]) (rest := []) (c_X2_has  hq hb hR (by omega)) dX2_mudOf_2 gX2_mudOf_X2_has rfl cd_X2_has ⟨Nat.le_of_ble_eq_true rfl, Nat.le_of_ble_eq_true rfl⟩ rfl rfl (by omega) (cX_rv hb) rfl rfl (Nat.le_of_ble_eq_true rfl) ⟨Nat.zero_le _, Nat.zero_le _⟩ (fun r_2 g_2 hp_2 => ?_)
  obtain ⟨⟨h_2, rfl⟩ | ⟨h_2, rfl⟩, rfl⟩ := hp_2
  · refine z_if_eq (tgt := 17) dX2_mudOf_5 (by decide) (by decide) (fun h => absurd h (by decide)) (fun _ => ?_)
    refine z_aload_n (j := 0) dX2_mudOf_8 rfl rfl ?_
    refine z_getf (i := 10 + b) (ci := 2) (k := 1) (v := .ref (q (14 + b))) dX2_mudOf_9 m_X2_mudOf_f15 in_X2_mudOf_X2 rfl (by decide) rfl (by omega) (cX_rv hb) rfl ?_
    refine z_iload_n (j := 1) dX2_mudOf_12 rfl rfl ?_
    refine z_iald (i := 14 + b) (g := xa (6 + b)) 0 dX2_mudOf_13 (by omega) (cX_mud hb) rfl (by omega) (by omega) (by omega) ?_
    refine z_goto (tgt := 18) dX2_mudOf_14 (by decide) ?_
    exact z_iret dX2_mudOf_18 ⟨⟨_, (by first | rw [if_pos h_2] | rw [if_neg h_2]), rfl⟩, rfl⟩
  · refine z_if_eq (tgt := 17) dX2_mudOf_5 (by decide) (by decide) (fun _ => ?_) (fun h => absurd h (by decide))
    refine z_iconst dX2_mudOf_17 ?_
    exact z_iret dX2_mudOf_18 ⟨⟨_, (by first | rw [if_pos h_2] | rw [if_neg h_2]), rfl⟩, rfl⟩
theorem m_X2_isDeep_f18 : Cond.fieldLink RX2 18 "PoleBehind$River" "deepRow" "[Z" ∈ wsX2_isDeep := List.mem_of_getElem? (i := 1) rfl
theorem in_X2_isDeep_X2 : ∀ w ∈ wsX20, w ∈ wsX2_isDeep := fun _ h => List.mem_cons_of_mem _ (List.mem_append_right _ h)
set_option maxHeartbeats 4000000 in
set_option maxRecDepth 100000 in
theorem c_X2_isDeep {l : Launch} {D : va_G} {cI cJ cZ cR : ClassId} {q : Nat → Nat} {w d : Nat} {xi : Nat → Int} {xa : Nat → Nat → Int} (hq : qOk 31 q) {b : Nat} {x : Int} (hb : b < 2) (hR : RvOk xi xa b) (hx : -2147483648 ≤ x ∧ x < 2147483648) : Cti l D vwCl (tysC cI cJ cZ cR) 31 q yX2_isDeep wsX2_isDeep ({ frames := 1, cells := 0, slots := 0, locals := 21 } : Room) [.ref (q (10 + b)), .int (iI x)] (cX cI cJ cZ cR q w d xi xa) (fun (r : Int32) (g : Nat → va_E) => ((((0 ≤ x ∧ x < xi (10 + b)) ∧ xa (8 + b) x.toNat = 1) ∧ r = iI 1) ∨ (¬ ((0 ≤ x ∧ x < xi (10 + b)) ∧ xa (8 + b) x.toNat = 1) ∧ r = iI 0)) ∧ g = (cX cI cJ cZ cR q w d xi xa)) := by
  refine Cti.of (cc := cX2_isDeep) (nL := 2) (own := RX2) (ret := (some .boolean)) (by decide) rfl rfl hq (Nat.le_of_ble_eq_true rfl) (fun p e s m args below meth c => ?_)
  obtain ⟨hN, hP, hK, hM, hD, hB⟩ := id hR
  have hx := hD x.toNat
  refine z_aload_n (j := 0) dX2_isDeep_0 rfl rfl ?_
  refine z_iload_n (j := 1) dX2_isDeep_1 rfl rfl ?_
  refine z_callVi (i := 10 + b) (ci := 2) (As := [.int (iI x)]) (rest := []) (c_X2_has  hq hb hR (by omega)) dX2_isDeep_2 gX2_isDeep_X2_has rfl cd_X2_has ⟨Nat.le_of_ble_eq_true rfl, Nat.le_of_ble_eq_true rfl⟩ rfl rfl (by omega) (cX_rv hb) rfl rfl (Nat.le_of_ble_eq_true rfl) ⟨Nat.zero_le _, Nat.zero_le _⟩ (fun r_2 g_2 hp_2 => ?_)
  obtain ⟨⟨h_2, rfl⟩ | ⟨h_2, rfl⟩, rfl⟩ := hp_2
  · refine z_if_eq (tgt := 21) dX2_isDeep_5 (by decide) (by decide) (fun h => absurd h (by decide)) (fun _ => ?_)
    refine z_aload_n (j := 0) dX2_isDeep_8 rfl rfl ?_
    refine z_getf (i := 10 + b) (ci := 2) (k := 2) (v := .ref (q (16 + b))) dX2_isDeep_9 m_X2_isDeep_f18 in_X2_isDeep_X2 rfl (by decide) rfl (by omega) (cX_rv hb) rfl ?_
    refine z_iload_n (j := 1) dX2_isDeep_12 rfl rfl ?_
    refine z_zald (i := 16 + b) (g := xa (8 + b)) 2 dX2_isDeep_13 (by omega) (cX_deep hb) rfl (by omega) (by omega) (by omega) ?_
    refine z_if_eq (tgt := 21) dX2_isDeep_14 (by decide) (by omega) (fun c_14 => ?_) (fun c_14 => ?_)
    · refine z_iconst dX2_isDeep_21 ?_
      exact z_zret dX2_isDeep_22 (Or.inl rfl) ⟨Or.inr ⟨(by omega), rfl⟩, rfl⟩
    · refine z_iconst dX2_isDeep_17 ?_
      refine z_goto (tgt := 22) dX2_isDeep_18 (by decide) ?_
      exact z_zret dX2_isDeep_22 (Or.inr rfl) ⟨Or.inl ⟨(by omega), rfl⟩, rfl⟩
  · refine z_if_eq (tgt := 21) dX2_isDeep_5 (by decide) (by decide) (fun _ => ?_) (fun h => absurd h (by decide))
    refine z_iconst dX2_isDeep_21 ?_
    exact z_zret dX2_isDeep_22 (Or.inl rfl) ⟨Or.inr ⟨(by omega), rfl⟩, rfl⟩
theorem m_X2_isBridged_f22 : Cond.fieldLink RX2 22 "PoleBehind$River" "bridgeRow" "[Z" ∈ wsX2_isBridged := List.mem_of_getElem? (i := 1) rfl
theorem in_X2_isBridged_X2 : ∀ w ∈ wsX20, w ∈ wsX2_isBridged := fun _ h => List.mem_cons_of_mem _ (List.mem_append_right _ h)
set_option maxHeartbeats 4000000 in
set_option maxRecDepth 100000 in
theorem c_X2_isBridged {l : Launch} {D : va_G} {cI cJ cZ cR : ClassId} {q : Nat → Nat} {w d : Nat} {xi : Nat → Int} {xa : Nat → Nat → Int} (hq : qOk 31 q) {b : Nat} {x : Int} (hb : b < 2) (hR : RvOk xi xa b) (hx : -2147483648 ≤ x ∧ x < 2147483648) : Cti l D vwCl (tysC cI cJ cZ cR) 31 q yX2_isBridged wsX2_isBridged ({ frames := 1, cells := 0, slots := 0, locals := 21 } : Room) [.ref (q (10 + b)), .int (iI x)] (cX cI cJ cZ cR q w d xi xa) (fun (r : Int32) (g : Nat → va_E) => ((((0 ≤ x ∧ x < xi (10 + b)) ∧ xa (10 + b) x.toNat = 1) ∧ r = iI 1) ∨ (¬ ((0 ≤ x ∧ x < xi (10 + b)) ∧ xa (10 + b) x.toNat = 1) ∧ r = iI 0)) ∧ g = (cX cI cJ cZ cR q w d xi xa)) := by
  refine Cti.of (cc := cX2_isBridged) (nL := 2) (own := RX2) (ret := (some .boolean)) (by decide) rfl rfl hq (Nat.le_of_ble_eq_true rfl) (fun p e s m args below meth c => ?_)
  obtain ⟨hN, hP, hK, hM, hD, hB⟩ := id hR
  have hx := hB x.toNat
  refine z_aload_n (j := 0) dX2_isBridged_0 rfl rfl ?_
  refine z_iload_n (j := 1) dX2_isBridged_1 rfl rfl ?_
  refine z_callVi (i := 10 + b) (ci := 2) (As := [.int (iI x)]) (rest := []) (c_X2_has  hq hb hR (by omega)) dX2_isBridged_2 gX2_isBridged_X2_has rfl cd_X2_has ⟨Nat.le_of_ble_eq_true rfl, Nat.le_of_ble_eq_true rfl⟩ rfl rfl (by omega) (cX_rv hb) rfl rfl (Nat.le_of_ble_eq_true rfl) ⟨Nat.zero_le _, Nat.zero_le _⟩ (fun r_2 g_2 hp_2 => ?_)
  obtain ⟨⟨h_2, rfl⟩ | ⟨h_2, rfl⟩, rfl⟩ := hp_2
  · refine z_if_eq (tgt := 21) dX2_isBridged_5 (by decide) (by decide) (fun h => absurd h (by decide)) (fun _ => ?_)
    refine z_aload_n (j := 0) dX2_isBridged_8 rfl rfl ?_
    refine z_getf (i := 10 + b) (ci := 2) (k := 3) (v := .ref (q (18 + b))) dX2_isBridged_9 m_X2_isBridged_f22 in_X2_isBridged_X2 rfl (by decide) rfl (by omega) (cX_rv hb) rfl ?_
    refine z_iload_n (j := 1) dX2_isBridged_12 rfl rfl ?_
    refine z_zald (i := 18 + b) (g := xa (10 + b)) 2 dX2_isBridged_13 (by omega) (cX_brid hb) rfl (by omega) (by omega) (by omega) ?_
    refine z_if_eq (tgt := 21) dX2_isBridged_14 (by decide) (by omega) (fun c_14 => ?_) (fun c_14 => ?_)
    · refine z_iconst dX2_isBridged_21 ?_
      exact z_zret dX2_isBridged_22 (Or.inl rfl) ⟨Or.inr ⟨(by omega), rfl⟩, rfl⟩
    · refine z_iconst dX2_isBridged_17 ?_
      refine z_goto (tgt := 22) dX2_isBridged_18 (by decide) ?_
      exact z_zret dX2_isBridged_22 (Or.inr rfl) ⟨Or.inl ⟨(by omega), rfl⟩, rfl⟩
  · refine z_if_eq (tgt := 21) dX2_isBridged_5 (by decide) (by decide) (fun _ => ?_) (fun h => absurd h (by decide))
    refine z_iconst dX2_isBridged_21 ?_
    exact z_zret dX2_isBridged_22 (Or.inl rfl) ⟨Or.inr ⟨(by omega), rfl⟩, rfl⟩
theorem m_X2_holdsIf_f18 : Cond.fieldLink RX2 18 "PoleBehind$River" "deepRow" "[Z" ∈ wsX2_holdsIf := List.mem_of_getElem? (i := 1) rfl
theorem in_X2_holdsIf_X2 : ∀ w ∈ wsX20, w ∈ wsX2_holdsIf := fun _ h => List.mem_cons_of_mem _ (List.mem_append_right _ h)
theorem m_X2_holdsIf_lmi54 : Cond.methodLink RX2 54 Lib.Math.min.name ∈ wsX2_holdsIf := List.mem_of_getElem? (i := 2) rfl
theorem m_X2_holdsIf_smi : Cond.static Lib.Math.min.name ∈ wsX2_holdsIf := List.mem_of_getElem? (i := 3) rfl
theorem m_X2_holdsIf_imi : Cond.initialized "java/lang/Math" ∈ wsX2_holdsIf := List.mem_of_getElem? (i := 4) rfl
theorem m_X2_holdsIf_kmi : Cond.code Lib.Math.min.name Lib.Math.min.code 2 (some .int) ∈ wsX2_holdsIf := List.mem_of_getElem? (i := 5) rfl
set_option maxHeartbeats 4000000 in
set_option maxRecDepth 100000 in
theorem c_X2_holdsIf {l : Launch} {D : va_G} {cI cJ cZ cR : ClassId} {q : Nat → Nat} {w d : Nat} {xi : Nat → Int} {xa : Nat → Nat → Int} (hq : qOk 31 q) {b : Nat} {x kind mm : Int} (hb : b < 2) (hR : RvOk xi xa b) (hx : -2147483648 ≤ x ∧ x < 2147483648) (hk : 0 ≤ kind ∧ kind ≤ 2) (hm : 0 ≤ mm ∧ mm ≤ 9) : Cti l D vwCl (tysC cI cJ cZ cR) 31 q yX2_holdsIf wsX2_holdsIf ({ frames := 1, cells := 0, slots := 0, locals := 21 } : Room) [.ref (q (10 + b)), .int (iI x), .int (iI kind), .int (iI mm)] (cX cI cJ cZ cR q w d xi xa) (fun (r : Int32) (g : Nat → va_E) => (∃ e : Int, (e = if 0 ≤ x ∧ x < xi (10 + b) then holdK (xa (8 + b) x.toNat) kind mm else 0) ∧ r = iI e) ∧ g = (cX cI cJ cZ cR q w d xi xa)) := by
  refine Cti.of (cc := cX2_holdsIf) (nL := 4) (own := RX2) (ret := (some .int)) (by decide) rfl rfl hq (Nat.le_of_ble_eq_true rfl) (fun p e s m args below meth c => ?_)
  obtain ⟨hN, hP, hK, hM, hD, hB⟩ := id hR
  have hx := hD x.toNat
  refine z_aload_n (j := 0) dX2_holdsIf_0 rfl rfl ?_
  refine z_iload_n (j := 1) dX2_holdsIf_1 rfl rfl ?_
  refine z_callVi (i := 10 + b) (ci := 2) (As := [.int (iI x)]) (rest := []) (c_X2_has  hq hb hR (by omega)) dX2_holdsIf_2 gX2_holdsIf_X2_has rfl cd_X2_has ⟨Nat.le_of_ble_eq_true rfl, Nat.le_of_ble_eq_true rfl⟩ rfl rfl (by omega) (cX_rv hb) rfl rfl (Nat.le_of_ble_eq_true rfl) ⟨Nat.zero_le _, Nat.zero_le _⟩ (fun r_2 g_2 hp_2 => ?_)
  obtain ⟨⟨h_2, rfl⟩ | ⟨h_2, rfl⟩, rfl⟩ := hp_2
  · refine z_if_eq (tgt := 17) dX2_holdsIf_5 (by decide) (by decide) (fun h => absurd h (by decide)) (fun _ => ?_)
    refine z_aload_n (j := 0) dX2_holdsIf_8 rfl rfl ?_
    refine z_getf (i := 10 + b) (ci := 2) (k := 2) (v := .ref (q (16 + b))) dX2_holdsIf_9 m_X2_holdsIf_f18 in_X2_holdsIf_X2 rfl (by decide) rfl (by omega) (cX_rv hb) rfl ?_
    refine z_iload_n (j := 1) dX2_holdsIf_12 rfl rfl ?_
    refine z_zald (i := 16 + b) (g := xa (8 + b)) 2 dX2_holdsIf_13 (by omega) (cX_deep hb) rfl (by omega) (by omega) (by omega) ?_
    refine z_if_eq (tgt := 19) dX2_holdsIf_14 (by decide) (by omega) (fun c_14 => ?_) (fun c_14 => ?_)
    · refine z_iload_n (j := 2) dX2_holdsIf_19 rfl rfl ?_
      by_cases k_20_0 : kind = 1
      · refine z_lsw (off := 39) (tgt := 59) dX2_holdsIf_20 (by omega) (by decide) (by rw [k_20_0]; decide) (by decide) ?_
        refine z_iload_n (j := 3) dX2_holdsIf_59 rfl rfl ?_
        refine z_iconst dX2_holdsIf_60 ?_
        refine z_iadd dX2_holdsIf_61 ?_
        refine z_bipush dX2_holdsIf_62 (by decide) ?_
        refine z_mmin dX2_holdsIf_64 m_X2_holdsIf_lmi54 m_X2_holdsIf_smi m_X2_holdsIf_imi m_X2_holdsIf_kmi (Nat.le_of_ble_eq_true rfl) (Nat.le_of_ble_eq_true rfl) ⟨Nat.zero_le _, Nat.zero_le _⟩ (by omega) (by decide) ?_
        exact z_iret dX2_holdsIf_67 ⟨⟨_, (by first | rw [if_neg h_2] | (rw [if_pos h_2]; unfold holdK; first | rw [if_pos (by omega)] | rw [if_neg (by omega), if_pos (by omega)] | rw [if_neg (by omega), if_neg (by omega), if_pos (by omega)] | rw [if_neg (by omega), if_neg (by omega), if_neg (by omega)])), rfl⟩, rfl⟩
      ·
        by_cases k_20_1 : kind = 2
        · refine z_lsw (off := 28) (tgt := 48) dX2_holdsIf_20 (by omega) (by decide) (by rw [k_20_1]; decide) (by decide) ?_
          refine z_iconst dX2_holdsIf_48 ?_
          refine z_iload_n (j := 3) dX2_holdsIf_49 rfl rfl ?_
          refine z_iconst dX2_holdsIf_50 ?_
          refine z_iadd dX2_holdsIf_51 ?_
          refine z_imul dX2_holdsIf_52 ?_
          refine z_bipush dX2_holdsIf_53 (by decide) ?_
          refine z_mmin dX2_holdsIf_55 m_X2_holdsIf_lmi54 m_X2_holdsIf_smi m_X2_holdsIf_imi m_X2_holdsIf_kmi (Nat.le_of_ble_eq_true rfl) (Nat.le_of_ble_eq_true rfl) ⟨Nat.zero_le _, Nat.zero_le _⟩ (by omega) (by decide) ?_
          exact z_iret dX2_holdsIf_58 ⟨⟨_, (by first | rw [if_neg h_2] | (rw [if_pos h_2]; unfold holdK; first | rw [if_pos (by omega)] | rw [if_neg (by omega), if_pos (by omega)] | rw [if_neg (by omega), if_neg (by omega), if_pos (by omega)] | rw [if_neg (by omega), if_neg (by omega), if_neg (by omega)])), rfl⟩, rfl⟩
        ·
          refine z_lsw (off := 48) (tgt := 68) dX2_holdsIf_20 (by omega) (by decide) (by first | (show Op.lookupswitch.offset [(1, 39), (2, 28)] _ _ = _; rw [Op.lookupswitch.offset_cons, if_neg (fun h => k_20_0 h.symm), Op.lookupswitch.offset_cons, if_neg (fun h => k_20_1 h.symm)]; rfl) | (show Op.lookupswitch.offset [(1, 39), (2, 28)] _ _ = _; rw [Op.lookupswitch.offset_cons, if_neg k_20_0, Op.lookupswitch.offset_cons, if_neg k_20_1]; rfl)) (by decide) ?_
          refine z_iload_n (j := 3) dX2_holdsIf_68 rfl rfl ?_
          refine z_bipush dX2_holdsIf_69 (by decide) ?_
          refine z_mmin dX2_holdsIf_71 m_X2_holdsIf_lmi54 m_X2_holdsIf_smi m_X2_holdsIf_imi m_X2_holdsIf_kmi (Nat.le_of_ble_eq_true rfl) (Nat.le_of_ble_eq_true rfl) ⟨Nat.zero_le _, Nat.zero_le _⟩ (by omega) (by decide) ?_
          exact z_iret dX2_holdsIf_74 ⟨⟨_, (by first | rw [if_neg h_2] | (rw [if_pos h_2]; unfold holdK; first | rw [if_pos (by omega)] | rw [if_neg (by omega), if_pos (by omega)] | rw [if_neg (by omega), if_neg (by omega), if_pos (by omega)] | rw [if_neg (by omega), if_neg (by omega), if_neg (by omega)])), rfl⟩, rfl⟩
    · refine z_iconst dX2_holdsIf_17 ?_
      exact z_iret dX2_holdsIf_18 ⟨⟨_, (by first | rw [if_neg h_2] | (rw [if_pos h_2]; unfold holdK; first | rw [if_pos (by omega)] | rw [if_neg (by omega), if_pos (by omega)] | rw [if_neg (by omega), if_neg (by omega), if_pos (by omega)] | rw [if_neg (by omega), if_neg (by omega), if_neg (by omega)])), rfl⟩, rfl⟩
  · refine z_if_eq (tgt := 17) dX2_holdsIf_5 (by decide) (by decide) (fun _ => ?_) (fun h => absurd h (by decide))
    refine z_iconst dX2_holdsIf_17 ?_
    exact z_iret dX2_holdsIf_18 ⟨⟨_, (by first | rw [if_neg h_2] | (rw [if_pos h_2]; unfold holdK; first | rw [if_pos (by omega)] | rw [if_neg (by omega), if_pos (by omega)] | rw [if_neg (by omega), if_neg (by omega), if_pos (by omega)] | rw [if_neg (by omega), if_neg (by omega), if_neg (by omega)])), rfl⟩, rfl⟩
theorem cd_X2_kindOf : yX2_kindOf.cls = RX2 ∧ yX2_kindOf.cls ≠ "java/lang/invoke/MethodHandle" ∧ yX2_kindOf.cls ≠ "java/lang/invoke/VarHandle" ∧ (parseMethodDescriptor yX2_kindOf.desc).map (fun d => d.parameters.length) = some 1 := ⟨rfl, by decide +kernel, by decide +kernel, by decide +kernel⟩
theorem cd_X2_mudOf : yX2_mudOf.cls = RX2 ∧ yX2_mudOf.cls ≠ "java/lang/invoke/MethodHandle" ∧ yX2_mudOf.cls ≠ "java/lang/invoke/VarHandle" ∧ (parseMethodDescriptor yX2_mudOf.desc).map (fun d => d.parameters.length) = some 1 := ⟨rfl, by decide +kernel, by decide +kernel, by decide +kernel⟩
theorem cd_X2_holdsIf : yX2_holdsIf.cls = RX2 ∧ yX2_holdsIf.cls ≠ "java/lang/invoke/MethodHandle" ∧ yX2_holdsIf.cls ≠ "java/lang/invoke/VarHandle" ∧ (parseMethodDescriptor yX2_holdsIf.desc).map (fun d => d.parameters.length) = some 3 := ⟨rfl, by decide +kernel, by decide +kernel, by decide +kernel⟩
set_option maxHeartbeats 4000000 in
set_option maxRecDepth 100000 in
theorem c_X2_holdsIn {l : Launch} {D : va_G} {cI cJ cZ cR : ClassId} {q : Nat → Nat} {w d : Nat} {xi : Nat → Int} {xa : Nat → Nat → Int} (hq : qOk 31 q) {b : Nat} {x : Int} (hb : b < 2) (hR : RvOk xi xa b) (hx : 0 ≤ x ∧ x < xi (10 + b)) : Cti l D vwCl (tysC cI cJ cZ cR) 31 q yX2_holdsIn wsX2_holdsIn ({ frames := 2, cells := 0, slots := 0, locals := 44 } : Room) [.ref (q (10 + b)), .int (iI x)] (cX cI cJ cZ cR q w d xi xa) (fun (r : Int32) (g : Nat → va_E) => (∃ e : Int, (e = hold (rvX xi xa b) x.toNat) ∧ r = iI e) ∧ g = (cX cI cJ cZ cR q w d xi xa)) := by
  refine Cti.of (cc := cX2_holdsIn) (nL := 2) (own := RX2) (ret := (some .int)) (by decide) rfl rfl hq (Nat.le_of_ble_eq_true rfl) (fun p e s m args below meth c => ?_)
  obtain ⟨hN, hP, hK, hM, hD, hB⟩ := id hR
  have hk0 := hK x.toNat
  have hm0 := hM x.toNat
  refine z_aload_n (j := 0) dX2_holdsIn_0 rfl rfl ?_
  refine z_iload_n (j := 1) dX2_holdsIn_1 rfl rfl ?_
  refine z_aload_n (j := 0) dX2_holdsIn_2 rfl rfl ?_
  refine z_iload_n (j := 1) dX2_holdsIn_3 rfl rfl ?_
  refine z_callVi (i := 10 + b) (ci := 2) (As := [.int (iI x)]) (rest := [.int (iI x), .ref (q (10 + b))]) (c_X2_kindOf  hq hb hR (by omega)) dX2_holdsIn_4 gX2_holdsIn_X2_kindOf rfl cd_X2_kindOf ⟨Nat.le_of_ble_eq_true rfl, Nat.le_of_ble_eq_true rfl⟩ rfl rfl (by omega) (cX_rv hb) rfl rfl (Nat.le_of_ble_eq_true rfl) ⟨Nat.zero_le _, Nat.zero_le _⟩ (fun r_4 g_4 hp_4 => ?_)
  obtain ⟨⟨e_4, he_4, rfl⟩, rfl⟩ := hp_4
  refine z_aload_n (j := 0) dX2_holdsIn_7 rfl rfl ?_
  refine z_iload_n (j := 1) dX2_holdsIn_8 rfl rfl ?_
  refine z_callVi (i := 10 + b) (ci := 2) (As := [.int (iI x)]) (rest := [.int (iI e_4), .int (iI x), .ref (q (10 + b))]) (c_X2_mudOf  hq hb hR (by omega)) dX2_holdsIn_9 gX2_holdsIn_X2_mudOf rfl cd_X2_mudOf ⟨Nat.le_of_ble_eq_true rfl, Nat.le_of_ble_eq_true rfl⟩ rfl rfl (by omega) (cX_rv hb) rfl rfl (Nat.le_of_ble_eq_true rfl) ⟨Nat.zero_le _, Nat.zero_le _⟩ (fun r_9 g_9 hp_9 => ?_)
  obtain ⟨⟨e_9, he_9, rfl⟩, rfl⟩ := hp_9
  refine z_callVi (i := 10 + b) (ci := 2) (As := [.int (iI x), .int (iI e_4), .int (iI e_9)]) (rest := []) (c_X2_holdsIf  hq hb hR (by omega) (by rw [he_4, if_pos hx]; exact hk0) (by rw [he_9, if_pos hx]; exact hm0)) dX2_holdsIn_12 gX2_holdsIn_X2_holdsIf rfl cd_X2_holdsIf ⟨Nat.le_of_ble_eq_true rfl, Nat.le_of_ble_eq_true rfl⟩ rfl rfl (by omega) (cX_rv hb) rfl rfl (Nat.le_of_ble_eq_true rfl) ⟨Nat.zero_le _, Nat.zero_le _⟩ (fun r_12 g_12 hp_12 => ?_)
  obtain ⟨⟨e_12, he_12, rfl⟩, rfl⟩ := hp_12
  exact z_iret dX2_holdsIn_15 ⟨⟨_, (by rw [he_12, if_pos hx, he_4, if_pos hx, he_9, if_pos hx]; unfold hold rK rM rD rvX; dsimp only; rw [nrm_in (by omega), nrm_in (by omega), nrm_in (by omega)]), rfl⟩, rfl⟩
theorem m_X2_start_f29 : Cond.fieldLink RX2 29 "PoleBehind$River" "paceAtFirst" "I" ∈ wsX2_start := List.mem_of_getElem? (i := 1) rfl
theorem in_X2_start_X2 : ∀ w ∈ wsX20, w ∈ wsX2_start := fun _ h => List.mem_cons_of_mem _ (List.mem_append_right _ h)
set_option maxHeartbeats 4000000 in
set_option maxRecDepth 100000 in
theorem c_X2_start {l : Launch} {D : va_G} {cI cJ cZ cR : ClassId} {q : Nat → Nat} {w d : Nat} {xi : Nat → Int} {xa : Nat → Nat → Int} (hq : qOk 31 q) {b : Nat} (hb : b < 2) (hR : RvOk xi xa b) : Cti l D vwCl (tysC cI cJ cZ cR) 31 q yX2_start wsX2_start ({ frames := 0, cells := 0, slots := 0, locals := 0 } : Room) [.ref (q (10 + b))] (cX cI cJ cZ cR q w d xi xa) (fun (r : Int32) (g : Nat → va_E) => (∃ e : Int, (e = xi (12 + b)) ∧ r = iI e) ∧ g = (cX cI cJ cZ cR q w d xi xa)) := by
  refine Cti.of (cc := cX2_start) (nL := 1) (own := RX2) (ret := (some .int)) (by decide) rfl rfl hq (Nat.le_of_ble_eq_true rfl) (fun p e s m args below meth c => ?_)
  obtain ⟨hN, hP, hK, hM, hD, hB⟩ := id hR
  refine z_aload_n (j := 0) dX2_start_0 rfl rfl ?_
  refine z_getf (i := 10 + b) (ci := 2) (k := 5) (v := .int (iI (xi (12 + b)))) dX2_start_1 m_X2_start_f29 in_X2_start_X2 rfl (by decide) rfl (by omega) (cX_rv hb) rfl ?_
  exact z_iret dX2_start_4 ⟨⟨_, (rfl), rfl⟩, rfl⟩
theorem m_X2_spots_f25 : Cond.fieldLink RX2 25 "PoleBehind$River" "count" "I" ∈ wsX2_spots := List.mem_of_getElem? (i := 1) rfl
theorem in_X2_spots_X2 : ∀ w ∈ wsX20, w ∈ wsX2_spots := fun _ h => List.mem_cons_of_mem _ (List.mem_append_right _ h)
set_option maxHeartbeats 4000000 in
set_option maxRecDepth 100000 in
theorem c_X2_spots {l : Launch} {D : va_G} {cI cJ cZ cR : ClassId} {q : Nat → Nat} {w d : Nat} {xi : Nat → Int} {xa : Nat → Nat → Int} (hq : qOk 31 q) {b : Nat} (hb : b < 2) (hR : RvOk xi xa b) : Cti l D vwCl (tysC cI cJ cZ cR) 31 q yX2_spots wsX2_spots ({ frames := 0, cells := 0, slots := 0, locals := 0 } : Room) [.ref (q (10 + b))] (cX cI cJ cZ cR q w d xi xa) (fun (r : Int32) (g : Nat → va_E) => (∃ e : Int, (e = 4 * xi (10 + b)) ∧ r = iI e) ∧ g = (cX cI cJ cZ cR q w d xi xa)) := by
  refine Cti.of (cc := cX2_spots) (nL := 1) (own := RX2) (ret := (some .int)) (by decide) rfl rfl hq (Nat.le_of_ble_eq_true rfl) (fun p e s m args below meth c => ?_)
  obtain ⟨hN, hP, hK, hM, hD, hB⟩ := id hR
  refine z_aload_n (j := 0) dX2_spots_0 rfl rfl ?_
  refine z_getf (i := 10 + b) (ci := 2) (k := 4) (v := .int (iI (xi (10 + b)))) dX2_spots_1 m_X2_spots_f25 in_X2_spots_X2 rfl (by decide) rfl (by omega) (cX_rv hb) rfl ?_
  refine z_iconst dX2_spots_4 ?_
  refine z_imul dX2_spots_5 ?_
  exact z_iret dX2_spots_6 ⟨⟨_, (by omega), rfl⟩, rfl⟩
theorem m_X2_tea_f25 : Cond.fieldLink RX2 25 "PoleBehind$River" "count" "I" ∈ wsX2_tea := List.mem_of_getElem? (i := 1) rfl
theorem in_X2_tea_X2 : ∀ w ∈ wsX20, w ∈ wsX2_tea := fun _ h => List.mem_cons_of_mem _ (List.mem_append_right _ h)
set_option maxHeartbeats 4000000 in
set_option maxRecDepth 100000 in
theorem c_X2_tea {l : Launch} {D : va_G} {cI cJ cZ cR : ClassId} {q : Nat → Nat} {w d : Nat} {xi : Nat → Int} {xa : Nat → Nat → Int} (hq : qOk 31 q) {b : Nat} (hb : b < 2) (hR : RvOk xi xa b) : Cti l D vwCl (tysC cI cJ cZ cR) 31 q yX2_tea wsX2_tea ({ frames := 0, cells := 0, slots := 0, locals := 0 } : Room) [.ref (q (10 + b))] (cX cI cJ cZ cR q w d xi xa) (fun (r : Int32) (g : Nat → va_E) => (∃ e : Int, (e = xi (10 + b) - 1) ∧ r = iI e) ∧ g = (cX cI cJ cZ cR q w d xi xa)) := by
  refine Cti.of (cc := cX2_tea) (nL := 1) (own := RX2) (ret := (some .int)) (by decide) rfl rfl hq (Nat.le_of_ble_eq_true rfl) (fun p e s m args below meth c => ?_)
  obtain ⟨hN, hP, hK, hM, hD, hB⟩ := id hR
  refine z_aload_n (j := 0) dX2_tea_0 rfl rfl ?_
  refine z_getf (i := 10 + b) (ci := 2) (k := 4) (v := .int (iI (xi (10 + b)))) dX2_tea_1 m_X2_tea_f25 in_X2_tea_X2 rfl (by decide) rfl (by omega) (cX_rv hb) rfl ?_
  refine z_iconst dX2_tea_4 ?_
  refine z_isub dX2_tea_5 ?_
  exact z_iret dX2_tea_6 ⟨⟨_, (rfl), rfl⟩, rfl⟩
theorem cd_X7_cellOf : yX7_cellOf.cls ≠ "java/lang/invoke/MethodHandle" ∧ yX7_cellOf.cls ≠ "java/lang/invoke/VarHandle" ∧ (parseMethodDescriptor yX7_cellOf.desc).map (fun d => d.parameters.length) = some 1 := ⟨by decide +kernel, by decide +kernel, by decide +kernel⟩
theorem nwm_X2_60 : Cond.methodLinkNest RX2 60 yX7_cellOf "PoleBehind" ∈ NWl := List.mem_of_getElem? (i := 16) rfl
theorem m_X2_isAtTea_st_X7_cellOf : Cond.static yX7_cellOf ∈ wsX2_isAtTea := List.mem_of_getElem? (i := 1) rfl
theorem m_X2_isAtTea_in_X7_cellOf : Cond.initialized yX7_cellOf.cls ∈ wsX2_isAtTea := List.mem_of_getElem? (i := 2) rfl
theorem cd_X2_tea : yX2_tea.cls = RX2 ∧ yX2_tea.cls ≠ "java/lang/invoke/MethodHandle" ∧ yX2_tea.cls ≠ "java/lang/invoke/VarHandle" ∧ (parseMethodDescriptor yX2_tea.desc).map (fun d => d.parameters.length) = some 0 := ⟨rfl, by decide +kernel, by decide +kernel, by decide +kernel⟩
set_option maxHeartbeats 4000000 in
set_option maxRecDepth 100000 in
theorem c_X2_isAtTea {l : Launch} {D : va_G} {cI cJ cZ cR : ClassId} {q : Nat → Nat} {w d : Nat} {xi : Nat → Int} {xa : Nat → Nat → Int} (hq : qOk 31 q) {b : Nat} {z : Int} (hb : b < 2) (hR : RvOk xi xa b) (hz : 0 ≤ z ∧ z < 2147483648) : Cti l D vwCl (tysC cI cJ cZ cR) 31 q yX2_isAtTea wsX2_isAtTea ({ frames := 1, cells := 0, slots := 0, locals := 20 } : Room) [.ref (q (10 + b)), .int (iI z)] (cX cI cJ cZ cR q w d xi xa) (fun (r : Int32) (g : Nat → va_E) => (((z / 4 = xi (10 + b) - 1) ∧ r = iI 1) ∨ (¬ (z / 4 = xi (10 + b) - 1) ∧ r = iI 0)) ∧ g = (cX cI cJ cZ cR q w d xi xa)) := by
  refine Cti.of (cc := cX2_isAtTea) (nL := 2) (own := RX2) (ret := (some .boolean)) (by decide) rfl rfl hq (Nat.le_of_ble_eq_true rfl) (fun p e s m args below meth c => ?_)
  obtain ⟨hN, hP, hK, hM, hD, hB⟩ := id hR
  refine z_iload_n (j := 1) dX2_isAtTea_0 rfl rfl ?_
  refine z_callNi (As := [.int (iI z)]) (rest := []) (c_X7_cellOf  hq (by omega)) dX2_isAtTea_1 gX2_isAtTea_X7_cellOf_n60 nwm_X2_60 m_X2_isAtTea_st_X7_cellOf m_X2_isAtTea_in_X7_cellOf rfl cd_X7_cellOf ⟨Nat.le_of_ble_eq_true rfl, Nat.le_of_ble_eq_true rfl⟩ rfl rfl rfl (Nat.le_of_ble_eq_true rfl) ⟨Nat.zero_le _, Nat.zero_le _⟩ (fun r_1 g_1 hp_1 => ?_)
  obtain ⟨⟨_, rfl, rfl⟩, rfl⟩ := hp_1
  refine z_aload_n (j := 0) dX2_isAtTea_4 rfl rfl ?_
  refine z_callVi (i := 10 + b) (ci := 2) (As := []) (rest := [.int (iI (z / 4))]) (c_X2_tea  hq hb hR) dX2_isAtTea_5 gX2_isAtTea_X2_tea rfl cd_X2_tea ⟨Nat.le_of_ble_eq_true rfl, Nat.le_of_ble_eq_true rfl⟩ rfl rfl (by omega) (cX_rv hb) rfl rfl (Nat.le_of_ble_eq_true rfl) ⟨Nat.zero_le _, Nat.zero_le _⟩ (fun r_5 g_5 hp_5 => ?_)
  obtain ⟨⟨_, rfl, rfl⟩, rfl⟩ := hp_5
  refine z_icmp_ne (tgt := 15) dX2_isAtTea_8 (by decide) (by omega) (by omega) (fun c_8 => ?_) (fun c_8 => ?_)
  · refine z_iconst dX2_isAtTea_15 ?_
    exact z_zret dX2_isAtTea_16 (Or.inl rfl) ⟨Or.inr ⟨(by omega), rfl⟩, rfl⟩
  · refine z_iconst dX2_isAtTea_11 ?_
    refine z_goto (tgt := 16) dX2_isAtTea_12 (by decide) ?_
    exact z_zret dX2_isAtTea_16 (Or.inr rfl) ⟨Or.inl ⟨(by omega), rfl⟩, rfl⟩
theorem m_X2_paceAfter_lmi54 : Cond.methodLink RX2 54 Lib.Math.min.name ∈ wsX2_paceAfter := List.mem_of_getElem? (i := 1) rfl
theorem m_X2_paceAfter_smi : Cond.static Lib.Math.min.name ∈ wsX2_paceAfter := List.mem_of_getElem? (i := 2) rfl
theorem m_X2_paceAfter_imi : Cond.initialized "java/lang/Math" ∈ wsX2_paceAfter := List.mem_of_getElem? (i := 3) rfl
theorem m_X2_paceAfter_kmi : Cond.code Lib.Math.min.name Lib.Math.min.code 2 (some .int) ∈ wsX2_paceAfter := List.mem_of_getElem? (i := 4) rfl
theorem m_X2_paceAfter_lma80 : Cond.methodLink RX2 80 Lib.Math.max.name ∈ wsX2_paceAfter := List.mem_of_getElem? (i := 5) rfl
theorem m_X2_paceAfter_sma : Cond.static Lib.Math.max.name ∈ wsX2_paceAfter := List.mem_of_getElem? (i := 6) rfl
theorem m_X2_paceAfter_ima : Cond.initialized "java/lang/Math" ∈ wsX2_paceAfter := List.mem_of_getElem? (i := 3) rfl
theorem m_X2_paceAfter_kma : Cond.code Lib.Math.max.name Lib.Math.max.code 2 (some .int) ∈ wsX2_paceAfter := List.mem_of_getElem? (i := 7) rfl
set_option maxHeartbeats 4000000 in
set_option maxRecDepth 100000 in
theorem c_X2_paceAfter {l : Launch} {D : va_G} {cI cJ cZ cR : ClassId} {q : Nat → Nat} {w d : Nat} {xi : Nat → Int} {xa : Nat → Nat → Int} (hq : qOk 31 q) {t act : Int} (ht : 0 ≤ t ∧ t ≤ 3) (ha : -2147483648 ≤ act ∧ act < 2147483648) : Cti l D vwCl (tysC cI cJ cZ cR) 31 q yX2_paceAfter wsX2_paceAfter ({ frames := 1, cells := 0, slots := 0, locals := 21 } : Room) [.int (iI t), .int (iI act)] (cX cI cJ cZ cR q w d xi xa) (fun (r : Int32) (g : Nat → va_E) => (∃ e : Int, (e = pacA act t) ∧ r = iI e) ∧ g = (cX cI cJ cZ cR q w d xi xa)) := by
  refine Cti.of (cc := cX2_paceAfter) (nL := 2) (own := RX2) (ret := (some .int)) (by decide) rfl rfl hq (Nat.le_of_ble_eq_true rfl) (fun p e s m args below meth c => ?_)
  refine z_iload_n (j := 1) dX2_paceAfter_0 rfl rfl ?_
  by_cases k_1_0 : act = 0
  · refine z_tsw (kv := 0) (off := 27) (tgt := 28) dX2_paceAfter_1 (by omega) k_1_0 (by decide) (by decide) rfl (by decide) ?_
    refine z_iload_n (j := 0) dX2_paceAfter_28 rfl rfl ?_
    refine z_iconst dX2_paceAfter_29 ?_
    refine z_iadd dX2_paceAfter_30 ?_
    refine z_iconst dX2_paceAfter_31 ?_
    refine z_mmin dX2_paceAfter_32 m_X2_paceAfter_lmi54 m_X2_paceAfter_smi m_X2_paceAfter_imi m_X2_paceAfter_kmi (Nat.le_of_ble_eq_true rfl) (Nat.le_of_ble_eq_true rfl) ⟨Nat.zero_le _, Nat.zero_le _⟩ (by omega) (by decide) ?_
    exact z_iret dX2_paceAfter_35 ⟨⟨_, (by unfold pacA; first | rw [if_pos (by omega)] | rw [if_neg (by omega), if_pos (by omega)] | rw [if_neg (by omega), if_neg (by omega), if_pos (by omega)] | rw [if_neg (by omega), if_neg (by omega), if_neg (by omega)]), rfl⟩, rfl⟩
  ·
    by_cases k_1_1 : act = 1
    · refine z_tsw (kv := 1) (off := 35) (tgt := 36) dX2_paceAfter_1 (by omega) k_1_1 (by decide) (by decide) rfl (by decide) ?_
      refine z_iload_n (j := 0) dX2_paceAfter_36 rfl rfl ?_
      refine z_iconst dX2_paceAfter_37 ?_
      refine z_isub dX2_paceAfter_38 ?_
      refine z_iconst dX2_paceAfter_39 ?_
      refine z_mmax dX2_paceAfter_40 m_X2_paceAfter_lma80 m_X2_paceAfter_sma m_X2_paceAfter_ima m_X2_paceAfter_kma (Nat.le_of_ble_eq_true rfl) (Nat.le_of_ble_eq_true rfl) ⟨Nat.zero_le _, Nat.zero_le _⟩ (by omega) (by decide) ?_
      exact z_iret dX2_paceAfter_43 ⟨⟨_, (by unfold pacA; first | rw [if_pos (by omega)] | rw [if_neg (by omega), if_pos (by omega)] | rw [if_neg (by omega), if_neg (by omega), if_pos (by omega)] | rw [if_neg (by omega), if_neg (by omega), if_neg (by omega)]), rfl⟩, rfl⟩
    ·
      by_cases k_1_2 : act = 2
      · refine z_tsw (kv := 2) (off := 43) (tgt := 44) dX2_paceAfter_1 (by omega) k_1_2 (by decide) (by decide) rfl (by decide) ?_
        refine z_iload_n (j := 0) dX2_paceAfter_44 rfl rfl ?_
        refine z_iconst dX2_paceAfter_45 ?_
        refine z_mmax dX2_paceAfter_46 m_X2_paceAfter_lma80 m_X2_paceAfter_sma m_X2_paceAfter_ima m_X2_paceAfter_kma (Nat.le_of_ble_eq_true rfl) (Nat.le_of_ble_eq_true rfl) ⟨Nat.zero_le _, Nat.zero_le _⟩ (by omega) (by decide) ?_
        exact z_iret dX2_paceAfter_49 ⟨⟨_, (by unfold pacA; first | rw [if_pos (by omega)] | rw [if_neg (by omega), if_pos (by omega)] | rw [if_neg (by omega), if_neg (by omega), if_pos (by omega)] | rw [if_neg (by omega), if_neg (by omega), if_neg (by omega)]), rfl⟩, rfl⟩
      ·
        refine z_tswD (tgt := 50) dX2_paceAfter_1 (by omega) (by omega) (by decide) ?_
        refine z_iconst dX2_paceAfter_50 ?_
        exact z_iret dX2_paceAfter_51 ⟨⟨_, (by unfold pacA; first | rw [if_pos (by omega)] | rw [if_neg (by omega), if_pos (by omega)] | rw [if_neg (by omega), if_neg (by omega), if_pos (by omega)] | rw [if_neg (by omega), if_neg (by omega), if_neg (by omega)]), rfl⟩, rfl⟩
theorem m_X2_hasBridgeWithin_lma80 : Cond.methodLink RX2 80 Lib.Math.max.name ∈ wsX2_hasBridgeWithin := List.mem_of_getElem? (i := 1) rfl
theorem m_X2_hasBridgeWithin_sma : Cond.static Lib.Math.max.name ∈ wsX2_hasBridgeWithin := List.mem_of_getElem? (i := 2) rfl
theorem m_X2_hasBridgeWithin_ima : Cond.initialized "java/lang/Math" ∈ wsX2_hasBridgeWithin := List.mem_of_getElem? (i := 3) rfl
theorem m_X2_hasBridgeWithin_kma : Cond.code Lib.Math.max.name Lib.Math.max.code 2 (some .int) ∈ wsX2_hasBridgeWithin := List.mem_of_getElem? (i := 4) rfl
theorem m_X2_hasBridgeWithin_f25 : Cond.fieldLink RX2 25 "PoleBehind$River" "count" "I" ∈ wsX2_hasBridgeWithin := List.mem_of_getElem? (i := 5) rfl
theorem in_X2_hasBridgeWithin_X2 : ∀ w ∈ wsX20, w ∈ wsX2_hasBridgeWithin := fun _ h => List.mem_cons_of_mem _ (List.mem_append_right _ h)
theorem m_X2_hasBridgeWithin_f22 : Cond.fieldLink RX2 22 "PoleBehind$River" "bridgeRow" "[Z" ∈ wsX2_hasBridgeWithin := List.mem_of_getElem? (i := 6) rfl
set_option maxHeartbeats 4000000 in
set_option maxRecDepth 100000 in
theorem c_X2_hasBridgeWithin {l : Launch} {D : va_G} {cI cJ cZ cR : ClassId} {q : Nat → Nat} {w d : Nat} {xi : Nat → Int} {xa : Nat → Nat → Int} (hq : qOk 31 q) {b : Nat} {x t : Int} (hb : b < 2) (hR : RvOk xi xa b) (hx : 0 ≤ x ∧ x ≤ 100) (ht : t < xi (10 + b)) (ht2 : -2147483648 ≤ t ∧ t < 2147483648) : Cti l D vwCl (tysC cI cJ cZ cR) 31 q yX2_hasBridgeWithin wsX2_hasBridgeWithin ({ frames := 1, cells := 0, slots := 0, locals := 21 } : Room) [.ref (q (10 + b)), .int (iI x), .int (iI t)] (cX cI cJ cZ cR q w d xi xa) (fun (r : Int32) (g : Nat → va_E) => (((∃ k : Nat, x ≤ (k : Int) ∧ (k : Int) ≤ t ∧ xa (10 + b) k = 1) ∧ r = iI 1) ∨ (¬ (∃ k : Nat, x ≤ (k : Int) ∧ (k : Int) ≤ t ∧ xa (10 + b) k = 1) ∧ r = iI 0)) ∧ g = (cX cI cJ cZ cR q w d xi xa)) := by
  refine Cti.of (cc := cX2_hasBridgeWithin) (nL := 4) (own := RX2) (ret := (some .boolean)) (by decide) rfl rfl hq (Nat.le_of_ble_eq_true rfl) (fun p e s m args below meth c => ?_)
  obtain ⟨hN, hP, hK, hM, hD, hB⟩ := id hR
  refine z_iload_n (j := 1) dX2_hasBridgeWithin_0 rfl rfl ?_
  refine z_iconst dX2_hasBridgeWithin_1 ?_
  refine z_mmax dX2_hasBridgeWithin_2 m_X2_hasBridgeWithin_lma80 m_X2_hasBridgeWithin_sma m_X2_hasBridgeWithin_ima m_X2_hasBridgeWithin_kma (Nat.le_of_ble_eq_true rfl) (Nat.le_of_ble_eq_true rfl) ⟨Nat.zero_le _, Nat.zero_le _⟩ (by omega) (by decide) ?_
  refine z_istore_n [(3, .int (iI (max x 0))), (0, .ref (q (10 + b))), (1, .int (iI x)), (2, .int (iI t))] dX2_hasBridgeWithin_5 rfl (by decide) rfl ?_
  have hl_6 : ∀ (N_6 : Nat) (u : Int), (300 - u).toNat < N_6 → (x ≤ u ∧ u ≤ 200) → (∀ k : Nat, x ≤ (k : Int) → (k : Int) < u → xa (10 + b) k = 0) → ZMi l D vwCl (tysC cI cJ cZ cR) 31 q ({ frames := 1, cells := 0, slots := 0, locals := 21 } : Room) cX2_hasBridgeWithin 4 RX2 wsX2_hasBridgeWithin (some .boolean) (fun (r : Int32) (g : Nat → va_E) => (((∃ k : Nat, x ≤ (k : Int) ∧ (k : Int) ≤ t ∧ xa (10 + b) k = 1) ∧ r = iI 1) ∨ (¬ (∃ k : Nat, x ≤ (k : Int) ∧ (k : Int) ≤ t ∧ xa (10 + b) k = 1) ∧ r = iI 0)) ∧ g = (cX cI cJ cZ cR q w d xi xa)) p e s m args below meth c (cX cI cJ cZ cR q w d xi xa) 6 [(3, .int (iI u)), (0, .ref (q (10 + b))), (1, .int (iI x)), (2, .int (iI t))] [] := by
    intro N_6
    induction N_6 with
    | zero => intro u hm; exact absurd hm (Nat.not_lt_zero _)
    | succ N_6 ih_6 =>
      intro u hm_6 hu hv
      have hu0 := hB u.toNat
      refine z_iload_n (j := 0) dX2_hasBridgeWithin_6 rfl rfl ?_
      refine z_iload_n (j := 3) dX2_hasBridgeWithin_7 rfl rfl ?_
      refine z_icmp_gt (tgt := 36) dX2_hasBridgeWithin_8 (by decide) (by omega) (by omega) (fun c_8 => ?_) (fun c_8 => ?_)
      · refine z_iconst dX2_hasBridgeWithin_36 ?_
        exact z_zret dX2_hasBridgeWithin_37 (Or.inl rfl) ⟨Or.inr ⟨(by rintro ⟨k, h1, h2, h3⟩; have := hv k h1 (by omega); omega), rfl⟩, rfl⟩
      · refine z_iload_n (j := 0) dX2_hasBridgeWithin_11 rfl rfl ?_
        refine z_aload_n (j := 1) dX2_hasBridgeWithin_12 rfl rfl ?_
        refine z_getf (i := 10 + b) (ci := 2) (k := 4) (v := .int (iI (xi (10 + b)))) dX2_hasBridgeWithin_13 m_X2_hasBridgeWithin_f25 in_X2_hasBridgeWithin_X2 rfl (by decide) rfl (by omega) (cX_rv hb) rfl ?_
        refine z_icmp_ge (tgt := 36) dX2_hasBridgeWithin_16 (by decide) (by omega) (by omega) (fun c_16 => ?_) (fun c_16 => ?_)
        · refine z_iconst dX2_hasBridgeWithin_36 ?_
          exact z_zret dX2_hasBridgeWithin_37 (Or.inl rfl) ⟨Or.inr ⟨(by rintro ⟨k, h1, h2, h3⟩; have := hv k h1 (by omega); omega), rfl⟩, rfl⟩
        · refine z_aload_n (j := 1) dX2_hasBridgeWithin_19 rfl rfl ?_
          refine z_getf (i := 10 + b) (ci := 2) (k := 3) (v := .ref (q (18 + b))) dX2_hasBridgeWithin_20 m_X2_hasBridgeWithin_f22 in_X2_hasBridgeWithin_X2 rfl (by decide) rfl (by omega) (cX_rv hb) rfl ?_
          refine z_iload_n (j := 0) dX2_hasBridgeWithin_23 rfl rfl ?_
          refine z_zald (i := 18 + b) (g := xa (10 + b)) 2 dX2_hasBridgeWithin_24 (by omega) (cX_brid hb) rfl (by omega) (by omega) (by omega) ?_
          refine z_if_eq (tgt := 30) dX2_hasBridgeWithin_25 (by decide) (by omega) (fun c_25 => ?_) (fun c_25 => ?_)
          · refine z_iinc (j := 0) [(3, .int (iI (u + 1))), (0, .ref (q (10 + b))), (1, .int (iI x)), (2, .int (iI t))] dX2_hasBridgeWithin_30 rfl (by decide) rfl ?_
            refine z_goto (tgt := 6) dX2_hasBridgeWithin_33 (by decide) ?_
            exact z_sub [(3, .int (iI (u + 1))), (0, .ref (q (10 + b))), (1, .int (iI x)), (2, .int (iI t))] [0, 1, 2, 3] rfl (ih_6 (u + 1) (by omega) (by omega) (fun k h1 h2 => by
            by_cases hk : (k : Int) = u
            · have : k = u.toNat := by omega
              rw [this]; omega
            · exact hv k h1 (by omega)))
          · refine z_iconst dX2_hasBridgeWithin_28 ?_
            exact z_zret dX2_hasBridgeWithin_29 (Or.inr rfl) ⟨Or.inl ⟨(by exact ⟨u.toNat, by omega, by omega, by omega⟩), rfl⟩, rfl⟩
  exact z_sub [(3, .int (iI (max x 0))), (0, .ref (q (10 + b))), (1, .int (iI x)), (2, .int (iI t))] [0, 1, 2, 3] rfl (hl_6 _ (max x 0) (Nat.lt_succ_self _) (by omega) (fun k h1 h2 => absurd h2 (by omega)))
theorem m_X2_after_st_X7_cellOf : Cond.static yX7_cellOf ∈ wsX2_after := List.mem_of_getElem? (i := 5) rfl
theorem m_X2_after_in_X7_cellOf : Cond.initialized yX7_cellOf.cls ∈ wsX2_after := List.mem_of_getElem? (i := 6) rfl
theorem cd_X7_paceOf : yX7_paceOf.cls ≠ "java/lang/invoke/MethodHandle" ∧ yX7_paceOf.cls ≠ "java/lang/invoke/VarHandle" ∧ (parseMethodDescriptor yX7_paceOf.desc).map (fun d => d.parameters.length) = some 1 := ⟨by decide +kernel, by decide +kernel, by decide +kernel⟩
theorem nwm_X2_70 : Cond.methodLinkNest RX2 70 yX7_paceOf "PoleBehind" ∈ NWl := List.mem_of_getElem? (i := 17) rfl
theorem m_X2_after_st_X7_paceOf : Cond.static yX7_paceOf ∈ wsX2_after := List.mem_of_getElem? (i := 23) rfl
theorem m_X2_after_in_X7_paceOf : Cond.initialized yX7_paceOf.cls ∈ wsX2_after := List.mem_of_getElem? (i := 6) rfl
theorem cd_X2_paceAfter : yX2_paceAfter.cls ≠ "java/lang/invoke/MethodHandle" ∧ yX2_paceAfter.cls ≠ "java/lang/invoke/VarHandle" ∧ (parseMethodDescriptor yX2_paceAfter.desc).map (fun d => d.parameters.length) = some 2 := ⟨by decide +kernel, by decide +kernel, by decide +kernel⟩
theorem m_X2_after_lmi54 : Cond.methodLink RX2 54 Lib.Math.min.name ∈ wsX2_after := List.mem_of_getElem? (i := 1) rfl
theorem m_X2_after_smi : Cond.static Lib.Math.min.name ∈ wsX2_after := List.mem_of_getElem? (i := 2) rfl
theorem m_X2_after_imi : Cond.initialized "java/lang/Math" ∈ wsX2_after := List.mem_of_getElem? (i := 3) rfl
theorem m_X2_after_kmi : Cond.code Lib.Math.min.name Lib.Math.min.code 2 (some .int) ∈ wsX2_after := List.mem_of_getElem? (i := 4) rfl
theorem cd_X2_hasBridgeWithin : yX2_hasBridgeWithin.cls = RX2 ∧ yX2_hasBridgeWithin.cls ≠ "java/lang/invoke/MethodHandle" ∧ yX2_hasBridgeWithin.cls ≠ "java/lang/invoke/VarHandle" ∧ (parseMethodDescriptor yX2_hasBridgeWithin.desc).map (fun d => d.parameters.length) = some 2 := ⟨rfl, by decide +kernel, by decide +kernel, by decide +kernel⟩
theorem cd_X2_isDeep : yX2_isDeep.cls = RX2 ∧ yX2_isDeep.cls ≠ "java/lang/invoke/MethodHandle" ∧ yX2_isDeep.cls ≠ "java/lang/invoke/VarHandle" ∧ (parseMethodDescriptor yX2_isDeep.desc).map (fun d => d.parameters.length) = some 1 := ⟨rfl, by decide +kernel, by decide +kernel, by decide +kernel⟩
set_option maxHeartbeats 4000000 in
set_option maxRecDepth 100000 in
theorem c_X2_after {l : Launch} {D : va_G} {cI cJ cZ cR : ClassId} {q : Nat → Nat} {w d : Nat} {xi : Nat → Int} {xa : Nat → Nat → Int} (hq : qOk 31 q) {b : Nat} {z act : Int} (hb : b < 2) (hR : RvOk xi xa b) (hz : 0 ≤ z ∧ z < 100000) (ha : 0 ≤ act ∧ act ≤ 3) : Cti l D vwCl (tysC cI cJ cZ cR) 31 q yX2_after wsX2_after ({ frames := 2, cells := 0, slots := 0, locals := 44 } : Room) [.ref (q (10 + b)), .int (iI z), .int (iI act)] (cX cI cJ cZ cR q w d xi xa) (fun (r : Int32) (g : Nat → va_E) => (∃ e : Int, (e = aftA (rvX xi xa b) act z) ∧ r = iI e) ∧ g = (cX cI cJ cZ cR q w d xi xa)) := by
  refine Cti.of (cc := cX2_after) (nL := 7) (own := RX2) (ret := (some .int)) (by decide) rfl rfl hq (Nat.le_of_ble_eq_true rfl) (fun p e s m args below meth c => ?_)
  obtain ⟨hN, hP, hK, hM, hD, hB⟩ := id hR
  have hpr := pacA_rng act (z % 4) (by omega)
  have hn : rN (rvX xi xa b) = xi (10 + b) := rfl
  have hdd : ∀ c : Nat, (c : Int) < xi (10 + b) → rD (rvX xi xa b) c = xa (8 + b) c := fun c h => nrm_in h
  have hbb : ∀ c : Nat, (c : Int) < xi (10 + b) → rB (rvX xi xa b) c = xa (10 + b) c := fun c h => nrm_in h
  have hcel : ∀ t : Int, celA (rN (rvX xi xa b)) (z / 4) t = min (z / 4 + t) (xi (10 + b) - 1) := fun t => rfl
  refine z_iload_n (j := 1) dX2_after_0 rfl rfl ?_
  refine z_callNi (As := [.int (iI z)]) (rest := []) (c_X7_cellOf  hq (by omega)) dX2_after_1 gX2_after_X7_cellOf_n60 nwm_X2_60 m_X2_after_st_X7_cellOf m_X2_after_in_X7_cellOf rfl cd_X7_cellOf ⟨Nat.le_of_ble_eq_true rfl, Nat.le_of_ble_eq_true rfl⟩ rfl rfl rfl (Nat.le_of_ble_eq_true rfl) ⟨Nat.zero_le _, Nat.zero_le _⟩ (fun r_1 g_1 hp_1 => ?_)
  obtain ⟨⟨_, rfl, rfl⟩, rfl⟩ := hp_1
  refine z_istore_n [(3, .int (iI (z / 4))), (0, .ref (q (10 + b))), (1, .int (iI z)), (2, .int (iI act))] dX2_after_4 rfl (by decide) rfl ?_
  have hj_19 : ∀ (ng : Int), ((ng = 1 ∧ (act = 0 ∨ act = 2)) ∨ (ng = 0 ∧ (act = 1 ∨ act = 3))) → ZMi l D vwCl (tysC cI cJ cZ cR) 31 q ({ frames := 2, cells := 0, slots := 0, locals := 44 } : Room) cX2_after 7 RX2 wsX2_after (some .int) (fun (r : Int32) (g : Nat → va_E) => (∃ e : Int, (e = aftA (rvX xi xa b) act z) ∧ r = iI e) ∧ g = (cX cI cJ cZ cR q w d xi xa)) p e s m args below meth c (cX cI cJ cZ cR q w d xi xa) 19 [(3, .int (iI (z / 4))), (0, .ref (q (10 + b))), (1, .int (iI z)), (2, .int (iI act))] [.int (iI ng)] := by
    intro ng hng
    refine z_istore [(4, .int (iI ng)), (3, .int (iI (z / 4))), (0, .ref (q (10 + b))), (1, .int (iI z)), (2, .int (iI act))] dX2_after_19 (by decide) rfl ?_
    refine z_iload_n (j := 3) dX2_after_21 rfl rfl ?_
    refine z_if_lt (tgt := 46) dX2_after_22 (by decide) (by omega) (fun c_22 => ?_) (fun c_22 => ?_)
    · refine z_iconst dX2_after_46 ?_
      exact z_iret dX2_after_47 ⟨⟨_, (by
      rw [aftA, if_neg]
      rw [canB_iff, hn]
      intro hc
      have h1 := hdd (z / 4).toNat
      omega), rfl⟩, rfl⟩
    · refine z_iload_n (j := 1) dX2_after_25 rfl rfl ?_
      refine z_aload_n (j := 2) dX2_after_26 rfl rfl ?_
      refine z_callVi (i := 10 + b) (ci := 2) (As := []) (rest := [.int (iI (z / 4))]) (c_X2_tea  hq hb hR) dX2_after_27 gX2_after_X2_tea rfl cd_X2_tea ⟨Nat.le_of_ble_eq_true rfl, Nat.le_of_ble_eq_true rfl⟩ rfl rfl (by omega) (cX_rv hb) rfl rfl (Nat.le_of_ble_eq_true rfl) ⟨Nat.zero_le _, Nat.zero_le _⟩ (fun r_27 g_27 hp_27 => ?_)
      obtain ⟨⟨_, rfl, rfl⟩, rfl⟩ := hp_27
      refine z_icmp_ge (tgt := 46) dX2_after_30 (by decide) (by omega) (by omega) (fun c_30 => ?_) (fun c_30 => ?_)
      · refine z_iconst dX2_after_46 ?_
        exact z_iret dX2_after_47 ⟨⟨_, (by
      rw [aftA, if_neg]
      rw [canB_iff, hn]
      intro hc
      have h1 := hdd (z / 4).toNat
      omega), rfl⟩, rfl⟩
      · refine z_iload (j := 0) dX2_after_33 rfl ?_
        refine z_if_eq (tgt := 48) dX2_after_35 (by decide) (by omega) (fun c_35 => ?_) (fun c_35 => ?_)
        · refine z_iload_n (j := 3) dX2_after_48 rfl rfl ?_
          refine z_callNi (As := [.int (iI z)]) (rest := []) (c_X7_paceOf  hq (by omega)) dX2_after_49 gX2_after_X7_paceOf_n70 nwm_X2_70 m_X2_after_st_X7_paceOf m_X2_after_in_X7_paceOf rfl cd_X7_paceOf ⟨Nat.le_of_ble_eq_true rfl, Nat.le_of_ble_eq_true rfl⟩ rfl rfl rfl (Nat.le_of_ble_eq_true rfl) ⟨Nat.zero_le _, Nat.zero_le _⟩ (fun r_49 g_49 hp_49 => ?_)
          obtain ⟨⟨_, rfl, rfl⟩, rfl⟩ := hp_49
          refine z_iload_n (j := 4) dX2_after_52 rfl rfl ?_
          refine z_callSi (As := [.int (iI (z % 4)), .int (iI act)]) (rest := []) (c_X2_paceAfter  hq (by omega) (by omega)) dX2_after_53 gX2_after_X2_paceAfter rfl cd_X2_paceAfter ⟨Nat.le_of_ble_eq_true rfl, Nat.le_of_ble_eq_true rfl⟩ rfl rfl rfl (Nat.le_of_ble_eq_true rfl) ⟨Nat.zero_le _, Nat.zero_le _⟩ (fun r_53 g_53 hp_53 => ?_)
          obtain ⟨⟨_, rfl, rfl⟩, rfl⟩ := hp_53
          refine z_istore [(5, .int (iI (pacA act (z % 4)))), (4, .int (iI ng)), (3, .int (iI (z / 4))), (0, .ref (q (10 + b))), (1, .int (iI z)), (2, .int (iI act))] dX2_after_56 (by decide) rfl ?_
          refine z_iload_n (j := 2) dX2_after_58 rfl rfl ?_
          refine z_iload (j := 0) dX2_after_59 rfl ?_
          refine z_iadd dX2_after_61 ?_
          refine z_aload_n (j := 3) dX2_after_62 rfl rfl ?_
          refine z_callVi (i := 10 + b) (ci := 2) (As := []) (rest := [.int (iI ((z / 4) + (pacA act (z % 4))))]) (c_X2_tea  hq hb hR) dX2_after_63 gX2_after_X2_tea rfl cd_X2_tea ⟨Nat.le_of_ble_eq_true rfl, Nat.le_of_ble_eq_true rfl⟩ rfl rfl (by omega) (cX_rv hb) rfl rfl (Nat.le_of_ble_eq_true rfl) ⟨Nat.zero_le _, Nat.zero_le _⟩ (fun r_63 g_63 hp_63 => ?_)
          obtain ⟨⟨_, rfl, rfl⟩, rfl⟩ := hp_63
          refine z_mmin dX2_after_66 m_X2_after_lmi54 m_X2_after_smi m_X2_after_imi m_X2_after_kmi (Nat.le_of_ble_eq_true rfl) (Nat.le_of_ble_eq_true rfl) ⟨Nat.zero_le _, Nat.zero_le _⟩ (by omega) (by omega) ?_
          refine z_istore [(6, .int (iI (min ((z / 4) + (pacA act (z % 4))) (xi (10 + b) - 1)))), (5, .int (iI (pacA act (z % 4)))), (4, .int (iI ng)), (3, .int (iI (z / 4))), (0, .ref (q (10 + b))), (1, .int (iI z)), (2, .int (iI act))] dX2_after_69 (by decide) rfl ?_
          refine z_iload (j := 1) dX2_after_71 rfl ?_
          refine z_iconst dX2_after_73 ?_
          refine z_icmp_le (tgt := 91) dX2_after_74 (by decide) (by omega) (by decide) (fun c_74 => ?_) (fun c_74 => ?_)
          · refine z_iload (j := 0) dX2_after_91 rfl ?_
            refine z_iconst dX2_after_93 ?_
            refine z_imul dX2_after_94 ?_
            refine z_iload (j := 1) dX2_after_95 rfl ?_
            refine z_iadd dX2_after_97 ?_
            exact z_iret dX2_after_98 ⟨⟨_, (by
      have hcan : canB (rvX xi xa b) act (z / 4) (z % 4) = true := by
        rw [canB_iff, hn]
        have h1 := hdd (z / 4).toNat
        have h2 := hD (z / 4).toNat
        refine ⟨by omega, by omega, ?_⟩
        first
          | exact Or.inl (by omega)
          | (refine Or.inr (fun x g1 g2 g3 => ?_)
             rw [celA] at g3
             rw [hbb x (by omega)]
             have h3 := hB x
             rcases h3 with h3 | h3
             · exact h3
             · exact absurd ⟨x, by omega, by omega, h3⟩ h_83)
      rw [aftA, if_pos hcan]
      have e1 : celA (rN (rvX xi xa b)) (z / 4) (pacA act (z % 4)) = min (z / 4 + pacA act (z % 4)) (xi (10 + b) - 1) := rfl
      omega), rfl⟩, rfl⟩
          · refine z_aload_n (j := 4) dX2_after_77 rfl rfl ?_
            refine z_iload_n (j := 3) dX2_after_78 rfl rfl ?_
            refine z_iconst dX2_after_79 ?_
            refine z_iadd dX2_after_80 ?_
            refine z_iload (j := 0) dX2_after_81 rfl ?_
            refine z_callVi (i := 10 + b) (ci := 2) (As := [.int (iI ((z / 4) + 1)), .int (iI (min ((z / 4) + (pacA act (z % 4))) (xi (10 + b) - 1)))]) (rest := []) (c_X2_hasBridgeWithin  hq hb hR (by omega) (by omega) (by omega)) dX2_after_83 gX2_after_X2_hasBridgeWithin rfl cd_X2_hasBridgeWithin ⟨Nat.le_of_ble_eq_true rfl, Nat.le_of_ble_eq_true rfl⟩ rfl rfl (by omega) (cX_rv hb) rfl rfl (Nat.le_of_ble_eq_true rfl) ⟨Nat.zero_le _, Nat.zero_le _⟩ (fun r_83 g_83 hp_83 => ?_)
            obtain ⟨⟨h_83, rfl⟩ | ⟨h_83, rfl⟩, rfl⟩ := hp_83
            · refine z_if_eq (tgt := 91) dX2_after_86 (by decide) (by decide) (fun h => absurd h (by decide)) (fun _ => ?_)
              refine z_iconst dX2_after_89 ?_
              exact z_iret dX2_after_90 ⟨⟨_, (by
      rw [aftA, if_neg]
      rw [canB_iff, hn]
      rintro ⟨h1, h2, h3⟩
      obtain ⟨k, g1, g2, g3⟩ := h_83
      rcases h3 with h3 | h3
      · omega
      · have g4 := h3 k (by omega) (by omega) (by rw [celA]; omega)
        rw [hbb k (by omega)] at g4
        omega), rfl⟩, rfl⟩
            · refine z_if_eq (tgt := 91) dX2_after_86 (by decide) (by decide) (fun _ => ?_) (fun h => absurd h (by decide))
              refine z_iload (j := 0) dX2_after_91 rfl ?_
              refine z_iconst dX2_after_93 ?_
              refine z_imul dX2_after_94 ?_
              refine z_iload (j := 1) dX2_after_95 rfl ?_
              refine z_iadd dX2_after_97 ?_
              exact z_iret dX2_after_98 ⟨⟨_, (by
      have hcan : canB (rvX xi xa b) act (z / 4) (z % 4) = true := by
        rw [canB_iff, hn]
        have h1 := hdd (z / 4).toNat
        have h2 := hD (z / 4).toNat
        refine ⟨by omega, by omega, ?_⟩
        first
          | exact Or.inl (by omega)
          | (refine Or.inr (fun x g1 g2 g3 => ?_)
             rw [celA] at g3
             rw [hbb x (by omega)]
             have h3 := hB x
             rcases h3 with h3 | h3
             · exact h3
             · exact absurd ⟨x, by omega, by omega, h3⟩ h_83)
      rw [aftA, if_pos hcan]
      have e1 : celA (rN (rvX xi xa b)) (z / 4) (pacA act (z % 4)) = min (z / 4 + pacA act (z % 4)) (xi (10 + b) - 1) := rfl
      omega), rfl⟩, rfl⟩
        · refine z_aload_n (j := 2) dX2_after_38 rfl rfl ?_
          refine z_iload_n (j := 1) dX2_after_39 rfl rfl ?_
          refine z_callVi (i := 10 + b) (ci := 2) (As := [.int (iI (z / 4))]) (rest := []) (c_X2_isDeep  hq hb hR (by omega)) dX2_after_40 gX2_after_X2_isDeep rfl cd_X2_isDeep ⟨Nat.le_of_ble_eq_true rfl, Nat.le_of_ble_eq_true rfl⟩ rfl rfl (by omega) (cX_rv hb) rfl rfl (Nat.le_of_ble_eq_true rfl) ⟨Nat.zero_le _, Nat.zero_le _⟩ (fun r_40 g_40 hp_40 => ?_)
          obtain ⟨⟨h_40, rfl⟩ | ⟨h_40, rfl⟩, rfl⟩ := hp_40
          · refine z_if_eq (tgt := 48) dX2_after_43 (by decide) (by decide) (fun h => absurd h (by decide)) (fun _ => ?_)
            refine z_iconst dX2_after_46 ?_
            exact z_iret dX2_after_47 ⟨⟨_, (by
      rw [aftA, if_neg]
      rw [canB_iff, hn]
      intro hc
      have h1 := hdd (z / 4).toNat
      omega), rfl⟩, rfl⟩
          · refine z_if_eq (tgt := 48) dX2_after_43 (by decide) (by decide) (fun _ => ?_) (fun h => absurd h (by decide))
            refine z_iload_n (j := 3) dX2_after_48 rfl rfl ?_
            refine z_callNi (As := [.int (iI z)]) (rest := []) (c_X7_paceOf  hq (by omega)) dX2_after_49 gX2_after_X7_paceOf_n70 nwm_X2_70 m_X2_after_st_X7_paceOf m_X2_after_in_X7_paceOf rfl cd_X7_paceOf ⟨Nat.le_of_ble_eq_true rfl, Nat.le_of_ble_eq_true rfl⟩ rfl rfl rfl (Nat.le_of_ble_eq_true rfl) ⟨Nat.zero_le _, Nat.zero_le _⟩ (fun r_49 g_49 hp_49 => ?_)
            obtain ⟨⟨_, rfl, rfl⟩, rfl⟩ := hp_49
            refine z_iload_n (j := 4) dX2_after_52 rfl rfl ?_
            refine z_callSi (As := [.int (iI (z % 4)), .int (iI act)]) (rest := []) (c_X2_paceAfter  hq (by omega) (by omega)) dX2_after_53 gX2_after_X2_paceAfter rfl cd_X2_paceAfter ⟨Nat.le_of_ble_eq_true rfl, Nat.le_of_ble_eq_true rfl⟩ rfl rfl rfl (Nat.le_of_ble_eq_true rfl) ⟨Nat.zero_le _, Nat.zero_le _⟩ (fun r_53 g_53 hp_53 => ?_)
            obtain ⟨⟨_, rfl, rfl⟩, rfl⟩ := hp_53
            refine z_istore [(5, .int (iI (pacA act (z % 4)))), (4, .int (iI ng)), (3, .int (iI (z / 4))), (0, .ref (q (10 + b))), (1, .int (iI z)), (2, .int (iI act))] dX2_after_56 (by decide) rfl ?_
            refine z_iload_n (j := 2) dX2_after_58 rfl rfl ?_
            refine z_iload (j := 0) dX2_after_59 rfl ?_
            refine z_iadd dX2_after_61 ?_
            refine z_aload_n (j := 3) dX2_after_62 rfl rfl ?_
            refine z_callVi (i := 10 + b) (ci := 2) (As := []) (rest := [.int (iI ((z / 4) + (pacA act (z % 4))))]) (c_X2_tea  hq hb hR) dX2_after_63 gX2_after_X2_tea rfl cd_X2_tea ⟨Nat.le_of_ble_eq_true rfl, Nat.le_of_ble_eq_true rfl⟩ rfl rfl (by omega) (cX_rv hb) rfl rfl (Nat.le_of_ble_eq_true rfl) ⟨Nat.zero_le _, Nat.zero_le _⟩ (fun r_63 g_63 hp_63 => ?_)
            obtain ⟨⟨_, rfl, rfl⟩, rfl⟩ := hp_63
            refine z_mmin dX2_after_66 m_X2_after_lmi54 m_X2_after_smi m_X2_after_imi m_X2_after_kmi (Nat.le_of_ble_eq_true rfl) (Nat.le_of_ble_eq_true rfl) ⟨Nat.zero_le _, Nat.zero_le _⟩ (by omega) (by omega) ?_
            refine z_istore [(6, .int (iI (min ((z / 4) + (pacA act (z % 4))) (xi (10 + b) - 1)))), (5, .int (iI (pacA act (z % 4)))), (4, .int (iI ng)), (3, .int (iI (z / 4))), (0, .ref (q (10 + b))), (1, .int (iI z)), (2, .int (iI act))] dX2_after_69 (by decide) rfl ?_
            refine z_iload (j := 1) dX2_after_71 rfl ?_
            refine z_iconst dX2_after_73 ?_
            refine z_icmp_le (tgt := 91) dX2_after_74 (by decide) (by omega) (by decide) (fun c_74 => ?_) (fun c_74 => ?_)
            · refine z_iload (j := 0) dX2_after_91 rfl ?_
              refine z_iconst dX2_after_93 ?_
              refine z_imul dX2_after_94 ?_
              refine z_iload (j := 1) dX2_after_95 rfl ?_
              refine z_iadd dX2_after_97 ?_
              exact z_iret dX2_after_98 ⟨⟨_, (by
      have hcan : canB (rvX xi xa b) act (z / 4) (z % 4) = true := by
        rw [canB_iff, hn]
        have h1 := hdd (z / 4).toNat
        have h2 := hD (z / 4).toNat
        refine ⟨by omega, by omega, ?_⟩
        first
          | exact Or.inl (by omega)
          | (refine Or.inr (fun x g1 g2 g3 => ?_)
             rw [celA] at g3
             rw [hbb x (by omega)]
             have h3 := hB x
             rcases h3 with h3 | h3
             · exact h3
             · exact absurd ⟨x, by omega, by omega, h3⟩ h_83)
      rw [aftA, if_pos hcan]
      have e1 : celA (rN (rvX xi xa b)) (z / 4) (pacA act (z % 4)) = min (z / 4 + pacA act (z % 4)) (xi (10 + b) - 1) := rfl
      omega), rfl⟩, rfl⟩
            · refine z_aload_n (j := 4) dX2_after_77 rfl rfl ?_
              refine z_iload_n (j := 3) dX2_after_78 rfl rfl ?_
              refine z_iconst dX2_after_79 ?_
              refine z_iadd dX2_after_80 ?_
              refine z_iload (j := 0) dX2_after_81 rfl ?_
              refine z_callVi (i := 10 + b) (ci := 2) (As := [.int (iI ((z / 4) + 1)), .int (iI (min ((z / 4) + (pacA act (z % 4))) (xi (10 + b) - 1)))]) (rest := []) (c_X2_hasBridgeWithin  hq hb hR (by omega) (by omega) (by omega)) dX2_after_83 gX2_after_X2_hasBridgeWithin rfl cd_X2_hasBridgeWithin ⟨Nat.le_of_ble_eq_true rfl, Nat.le_of_ble_eq_true rfl⟩ rfl rfl (by omega) (cX_rv hb) rfl rfl (Nat.le_of_ble_eq_true rfl) ⟨Nat.zero_le _, Nat.zero_le _⟩ (fun r_83 g_83 hp_83 => ?_)
              obtain ⟨⟨h_83, rfl⟩ | ⟨h_83, rfl⟩, rfl⟩ := hp_83
              · refine z_if_eq (tgt := 91) dX2_after_86 (by decide) (by decide) (fun h => absurd h (by decide)) (fun _ => ?_)
                refine z_iconst dX2_after_89 ?_
                exact z_iret dX2_after_90 ⟨⟨_, (by
      rw [aftA, if_neg]
      rw [canB_iff, hn]
      rintro ⟨h1, h2, h3⟩
      obtain ⟨k, g1, g2, g3⟩ := h_83
      rcases h3 with h3 | h3
      · omega
      · have g4 := h3 k (by omega) (by omega) (by rw [celA]; omega)
        rw [hbb k (by omega)] at g4
        omega), rfl⟩, rfl⟩
              · refine z_if_eq (tgt := 91) dX2_after_86 (by decide) (by decide) (fun _ => ?_) (fun h => absurd h (by decide))
                refine z_iload (j := 0) dX2_after_91 rfl ?_
                refine z_iconst dX2_after_93 ?_
                refine z_imul dX2_after_94 ?_
                refine z_iload (j := 1) dX2_after_95 rfl ?_
                refine z_iadd dX2_after_97 ?_
                exact z_iret dX2_after_98 ⟨⟨_, (by
      have hcan : canB (rvX xi xa b) act (z / 4) (z % 4) = true := by
        rw [canB_iff, hn]
        have h1 := hdd (z / 4).toNat
        have h2 := hD (z / 4).toNat
        refine ⟨by omega, by omega, ?_⟩
        first
          | exact Or.inl (by omega)
          | (refine Or.inr (fun x g1 g2 g3 => ?_)
             rw [celA] at g3
             rw [hbb x (by omega)]
             have h3 := hB x
             rcases h3 with h3 | h3
             · exact h3
             · exact absurd ⟨x, by omega, by omega, h3⟩ h_83)
      rw [aftA, if_pos hcan]
      have e1 : celA (rN (rvX xi xa b)) (z / 4) (pacA act (z % 4)) = min (z / 4 + pacA act (z % 4)) (xi (10 + b) - 1) := rfl
      omega), rfl⟩, rfl⟩
  refine z_iload_n (j := 3) dX2_after_5 rfl rfl ?_
  refine z_if_eq (tgt := 14) dX2_after_6 (by decide) (by omega) (fun c_6 => ?_) (fun c_6 => ?_)
  · refine z_iconst dX2_after_14 ?_
    refine z_goto (tgt := 19) dX2_after_15 (by decide) ?_
    exact z_sub [(3, .int (iI (z / 4))), (0, .ref (q (10 + b))), (1, .int (iI z)), (2, .int (iI act))] [0, 1, 2, 3] rfl (hj_19 1 (by omega))
  · refine z_iload_n (j := 3) dX2_after_9 rfl rfl ?_
    refine z_iconst dX2_after_10 ?_
    refine z_icmp_ne (tgt := 18) dX2_after_11 (by decide) (by omega) (by decide) (fun c_11 => ?_) (fun c_11 => ?_)
    · refine z_iconst dX2_after_18 ?_
      exact z_sub [(3, .int (iI (z / 4))), (0, .ref (q (10 + b))), (1, .int (iI z)), (2, .int (iI act))] [0, 1, 2, 3] rfl (hj_19 0 (by omega))
    · refine z_iconst dX2_after_14 ?_
      refine z_goto (tgt := 19) dX2_after_15 (by decide) ?_
      exact z_sub [(3, .int (iI (z / 4))), (0, .ref (q (10 + b))), (1, .int (iI z)), (2, .int (iI act))] [0, 1, 2, 3] rfl (hj_19 1 (by omega))
