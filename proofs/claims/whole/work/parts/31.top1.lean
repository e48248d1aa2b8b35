theorem m_X7_rowOf_f13 : Cond.fieldLink RX7 13 "PoleBehind" "sheets" "[LPoleBehind$Row;" ∈ wsX7_rowOf := List.mem_of_getElem? (i := 1) rfl
theorem in_X7_rowOf_X7 : ∀ w ∈ wsX70, w ∈ wsX7_rowOf := fun _ h => List.mem_cons_of_mem _ (List.mem_append_right _ h)
set_option maxHeartbeats 400000 in
set_option maxRecDepth 100000 in
theorem c_X7_rowOf {l : Launch} {D : va_G} {cI cJ cZ cR : ClassId} {q : Nat → Nat} {w d : Nat} {xi : Nat → Int} {xa : Nat → Nat → Int} (hq : qOk 31 q) {z : Int} (hz : -2147483648 ≤ z ∧ z < 2147483648) : Ctq l D vwCl (tysC cI cJ cZ cR) 31 q yX7_rowOf wsX7_rowOf ({ frames := 0, cells := 0, slots := 0, locals := 0 } : Room) [.ref (q 0), .int (iI z)] (cX cI cJ cZ cR q w d xi xa) (fun (r : Option Nat) (g : Nat → va_E) => (r = if 0 ≤ z ∧ z < 4 then some (q (2 + z.toNat)) else none) ∧ g = (cX cI cJ cZ cR q w d xi xa)) := by
  refine Ctq.of (cc := cX7_rowOf) (nL := 2) (own := RX7) (ret := (some (.object "PoleBehind$Row"))) (by decide) rfl rfl hq (Nat.le_of_ble_eq_true rfl) (fun p e s m args below meth c => ?_)
  refine z_iload_n (j := 1) dX7_rowOf_0 rfl rfl ?_
  refine z_if_lt (tgt := 22) dX7_rowOf_1 (by decide) (by omega) (fun c_1 => ?_) (fun c_1 => ?_)
  · refine z_null dX7_rowOf_22 ?_
    exact z_qret none dX7_rowOf_23 (Or.inl ⟨_, rfl⟩) rfl ⟨(by first | rw [if_pos ⟨by omega, by omega⟩] | rw [if_neg (by omega)]), rfl⟩
  · refine z_iload_n (j := 1) dX7_rowOf_4 rfl rfl ?_
    refine z_aload_n (j := 0) dX7_rowOf_5 rfl rfl ?_
    refine z_getf (i := 0) (ci := 7) (k := 0) (v := .ref (q 1)) dX7_rowOf_6 m_X7_rowOf_f13 in_X7_rowOf_X7 rfl (by decide) rfl (by omega) rfl rfl ?_
    refine z_alen (i := 1) 3 dX7_rowOf_9 (by omega) rfl rfl ?_
    refine z_icmp_ge (tgt := 22) dX7_rowOf_10 (by decide) (by omega) (by omega) (fun c_10 => ?_) (fun c_10 => ?_)
    · refine z_null dX7_rowOf_22 ?_
      exact z_qret none dX7_rowOf_23 (Or.inl ⟨_, rfl⟩) rfl ⟨(by first | rw [if_pos ⟨by omega, by omega⟩] | rw [if_neg (by omega)]), rfl⟩
    · refine z_aload_n (j := 0) dX7_rowOf_13 rfl rfl ?_
      refine z_getf (i := 0) (ci := 7) (k := 0) (v := .ref (q 1)) dX7_rowOf_14 m_X7_rowOf_f13 in_X7_rowOf_X7 rfl (by decide) rfl (by omega) rfl rfl ?_
      refine z_iload_n (j := 1) dX7_rowOf_17 rfl rfl ?_
      refine z_aald (i := 1) (v := q (2 + z.toNat)) 3 dX7_rowOf_18 (by omega) rfl rfl (by omega) (by omega) (by omega) rfl ?_
      refine z_goto (tgt := 23) dX7_rowOf_19 (by decide) ?_
      exact z_qret (some (q (2 + z.toNat))) dX7_rowOf_23 (Or.inl ⟨_, rfl⟩) rfl ⟨(by first | rw [if_pos ⟨by omega, by omega⟩] | rw [if_neg (by omega)]), rfl⟩
theorem m_X7_failed_f63 : Cond.fieldLink RX7 63 "PoleBehind" "lastFault" "I" ∈ wsX7_failed := List.mem_of_getElem? (i := 1) rfl
theorem in_X7_failed_X7 : ∀ w ∈ wsX70, w ∈ wsX7_failed := fun _ h => List.mem_cons_of_mem _ (List.mem_append_right _ h)
set_option maxHeartbeats 400000 in
set_option maxRecDepth 100000 in
theorem c_X7_failed {l : Launch} {D : va_G} {cI cJ cZ cR : ClassId} {q : Nat → Nat} {w d : Nat} {xi : Nat → Int} {xa : Nat → Nat → Int} (hq : qOk 31 q) {z : Int} (hz : -2147483648 ≤ z ∧ z < 2147483648) : Cti l D vwCl (tysC cI cJ cZ cR) 31 q yX7_failed wsX7_failed ({ frames := 0, cells := 0, slots := 0, locals := 0 } : Room) [.ref (q 0), .int (iI z)] (cX cI cJ cZ cR q w d xi xa) (fun (r : Int32) (g : Nat → va_E) => ∃ (e : Int) (xi' : Nat → Int), (e = -10 - z ∧ xi' = va_up xi 1 z) ∧ r = iI e ∧ g = (cX cI cJ cZ cR q w d xi' xa)) := by
  refine Cti.of (cc := cX7_failed) (nL := 2) (own := RX7) (ret := (some .int)) (by decide) rfl rfl hq (Nat.le_of_ble_eq_true rfl) (fun p e s m args below meth c => ?_)
  refine z_aload_n (j := 0) dX7_failed_0 rfl rfl ?_
  refine z_iload_n (j := 1) dX7_failed_1 rfl rfl ?_
  refine z_putf (i := 0) (ci := 7) (k := 9) (cX cI cJ cZ cR q w d (va_up xi 1 z) xa) dX7_failed_2 m_X7_failed_f63 in_X7_failed_X7 rfl (by decide) rfl (by omega) rfl tyX7_ok nmX7 rfl rfl rfl (Nat.le_of_ble_eq_true rfl) lx_fault ?_
  refine z_bipush dX7_failed_5 (by decide) ?_
  refine z_iload_n (j := 1) dX7_failed_7 rfl rfl ?_
  refine z_isub dX7_failed_8 ?_
  exact z_iret dX7_failed_9 ⟨_, _, (⟨rfl, rfl⟩), rfl, rfl⟩
theorem m_X7_leaveTrace_f263 : Cond.fieldLink RX7 263 "PoleBehind" "traced" "I" ∈ wsX7_leaveTrace := List.mem_of_getElem? (i := 1) rfl
theorem in_X7_leaveTrace_X7 : ∀ w ∈ wsX70, w ∈ wsX7_leaveTrace := fun _ h => List.mem_cons_of_mem _ (List.mem_append_right _ h)
set_option maxHeartbeats 400000 in
set_option maxRecDepth 100000 in
theorem c_X7_leaveTrace {l : Launch} {D : va_G} {cI cJ cZ cR : ClassId} {q : Nat → Nat} {w d : Nat} {xi : Nat → Int} {xa : Nat → Nat → Int} (hq : qOk 31 q) {z : Int}  : Ctv l D vwCl (tysC cI cJ cZ cR) 31 q yX7_leaveTrace wsX7_leaveTrace ({ frames := 0, cells := 0, slots := 0, locals := 0 } : Room) [.ref (q 0), .int (iI z)] (cX cI cJ cZ cR q w d xi xa) (fun (g : Nat → va_E) => ∃ (xi' : Nat → Int), (xi' = va_up xi 0 (31 * xi 0 + z)) ∧ g = (cX cI cJ cZ cR q w d xi' xa)) := by
  refine Ctv.of (cc := cX7_leaveTrace) (nL := 2) (own := RX7) (ret := none) (by decide) rfl rfl hq (Nat.le_of_ble_eq_true rfl) (fun p e s m args below meth c => ?_)
  refine z_aload_n (j := 0) dX7_leaveTrace_0 rfl rfl ?_
  refine z_bipush dX7_leaveTrace_1 (by decide) ?_
  refine z_aload_n (j := 0) dX7_leaveTrace_3 rfl rfl ?_
  refine z_getf (i := 0) (ci := 7) (k := 8) (v := .int (iI (xi 0))) dX7_leaveTrace_4 m_X7_leaveTrace_f263 in_X7_leaveTrace_X7 rfl (by decide) rfl (by omega) rfl rfl ?_
  refine z_imul dX7_leaveTrace_7 ?_
  refine z_iload_n (j := 1) dX7_leaveTrace_8 rfl rfl ?_
  refine z_iadd dX7_leaveTrace_9 ?_
  refine z_putf (i := 0) (ci := 7) (k := 8) (cX cI cJ cZ cR q w d (va_up xi 0 ((31 * (xi 0)) + z)) xa) dX7_leaveTrace_10 m_X7_leaveTrace_f263 in_X7_leaveTrace_X7 rfl (by decide) rfl (by omega) rfl tyX7_ok nmX7 rfl rfl rfl (Nat.le_of_ble_eq_true rfl) lx_trace ?_
  exact z_vret dX7_leaveTrace_13 ⟨_, (rfl), rfl⟩
theorem cd_X7_leaveTrace : yX7_leaveTrace.cls = RX7 ∧ yX7_leaveTrace.cls ≠ "java/lang/invoke/MethodHandle" ∧ yX7_leaveTrace.cls ≠ "java/lang/invoke/VarHandle" ∧ (parseMethodDescriptor yX7_leaveTrace.desc).map (fun d => d.parameters.length) = some 1 := ⟨rfl, by decide +kernel, by decide +kernel, by decide +kernel⟩
theorem m_X7_gravelTelling_f20 : Cond.fieldLink RX7 20 "PoleBehind" "water" "LPoleBehind$River;" ∈ wsX7_gravelTelling := List.mem_of_getElem? (i := 1) rfl
theorem in_X7_gravelTelling_X7 : ∀ w ∈ wsX70, w ∈ wsX7_gravelTelling := fun _ h => List.mem_cons_of_mem _ (List.mem_append_left _ (List.mem_append_right _ h))
set_option maxHeartbeats 400000 in
set_option maxRecDepth 100000 in
theorem c_X7_gravelTelling {l : Launch} {D : va_G} {cI cJ cZ cR : ClassId} {q : Nat → Nat} {w d : Nat} {xi : Nat → Int} {xa : Nat → Nat → Int} (hq : qOk 31 q) {z : Int} (hw : w < 2) (hR : RvOk xi xa w) (hz : 0 ≤ z ∧ z < xi (10 + w)) : Cti l D vwCl (tysC cI cJ cZ cR) 31 q yX7_gravelTelling wsX7_gravelTelling ({ frames := 2, cells := 0, slots := 0, locals := 42 } : Room) [.ref (q 0), .int (iI z)] (cX cI cJ cZ cR q w d xi xa) (fun (r : Int32) (g : Nat → va_E) => ∃ (e : Int) (xi' : Nat → Int), (e = xa (6 + w) z.toNat ∧ xi' = va_up xi 0 (trs (xi 0) [1])) ∧ r = iI e ∧ g = (cX cI cJ cZ cR q w d xi' xa)) := by
  refine Cti.of (cc := cX7_gravelTelling) (nL := 2) (own := RX7) (ret := (some .int)) (by decide) rfl rfl hq (Nat.le_of_ble_eq_true rfl) (fun p e s m args below meth c => ?_)
  obtain ⟨hN, hP, hK, hM, hD, hB⟩ := id hR
  have hMz := hM z.toNat
  refine z_aload_n (j := 0) dX7_gravelTelling_0 rfl rfl ?_
  refine z_iconst dX7_gravelTelling_1 ?_
  refine z_callVv (i := 0) (ci := 7) (As := [.int (iI 1)]) (rest := []) (c_X7_leaveTrace  hq ) dX7_gravelTelling_2 gX7_gravelTelling_X7_leaveTrace rfl cd_X7_leaveTrace ⟨Nat.le_of_ble_eq_true rfl, Nat.le_of_ble_eq_true rfl⟩ rfl rfl (by omega) rfl rfl rfl (Nat.le_of_ble_eq_true rfl) ⟨Nat.zero_le _, Nat.zero_le _⟩ (fun g_2 hp_2 => ?_)
  obtain ⟨xi_2, he_2, rfl⟩ := hp_2
  refine z_aload_n (j := 0) dX7_gravelTelling_5 rfl rfl ?_
  refine z_getf (i := 0) (ci := 7) (k := 1) (v := .ref (q (10 + w))) dX7_gravelTelling_6 m_X7_gravelTelling_f20 in_X7_gravelTelling_X7 rfl (by decide) rfl (by omega) rfl rfl ?_
  refine z_iload_n (j := 1) dX7_gravelTelling_9 rfl rfl ?_
  refine z_callVi (i := 10 + w) (ci := 2) (As := [.int (iI z)]) (rest := []) (c_X2_mudOf  hq hw (RvOk_eq (by rw [he_2, up_n (by omega)]) (by rw [he_2, up_n (by omega)]) rfl rfl rfl rfl hR) (by omega)) dX7_gravelTelling_10 gX7_gravelTelling_X2_mudOf rfl cd_X2_mudOf ⟨Nat.le_of_ble_eq_true rfl, Nat.le_of_ble_eq_true rfl⟩ rfl rfl (by omega) (cX_rv hw) rfl rfl (Nat.le_of_ble_eq_true rfl) ⟨Nat.zero_le _, Nat.zero_le _⟩ (fun r_10 g_10 hp_10 => ?_)
  obtain ⟨⟨e_10, he_10, rfl⟩, rfl⟩ := hp_10
  exact z_iret dX7_gravelTelling_13 ⟨_, _, (⟨by rw [he_10, if_pos (by rw [he_2, up_n (by omega)]; exact hz)], he_2⟩), rfl, rfl⟩
theorem cd_X7_gravelTelling : yX7_gravelTelling.cls = RX7 ∧ yX7_gravelTelling.cls ≠ "java/lang/invoke/MethodHandle" ∧ yX7_gravelTelling.cls ≠ "java/lang/invoke/VarHandle" ∧ (parseMethodDescriptor yX7_gravelTelling.desc).map (fun d => d.parameters.length) = some 1 := ⟨rfl, by decide +kernel, by decide +kernel, by decide +kernel⟩
set_option maxHeartbeats 400000 in
set_option maxRecDepth 100000 in
theorem c_X7_muddyTelling {l : Launch} {D : va_G} {cI cJ cZ cR : ClassId} {q : Nat → Nat} {w d : Nat} {xi : Nat → Int} {xa : Nat → Nat → Int} (hq : qOk 31 q) {z : Int} (hw : w < 2) (hR : RvOk xi xa w) (hz : 0 ≤ z ∧ z < xi (10 + w)) : Cti l D vwCl (tysC cI cJ cZ cR) 31 q yX7_muddyTelling wsX7_muddyTelling ({ frames := 3, cells := 0, slots := 0, locals := 63 } : Room) [.ref (q 0), .int (iI z)] (cX cI cJ cZ cR q w d xi xa) (fun (r : Int32) (g : Nat → va_E) => ∃ (e : Int) (xi' : Nat → Int), (e = xa (6 + w) z.toNat + 100 ∧ xi' = va_up xi 0 (trs (xi 0) [2, 1])) ∧ r = iI e ∧ g = (cX cI cJ cZ cR q w d xi' xa)) := by
  refine Cti.of (cc := cX7_muddyTelling) (nL := 2) (own := RX7) (ret := (some .int)) (by decide) rfl rfl hq (Nat.le_of_ble_eq_true rfl) (fun p e s m args below meth c => ?_)
  obtain ⟨hN, hP, hK, hM, hD, hB⟩ := id hR
  have hMz := hM z.toNat
  refine z_aload_n (j := 0) dX7_muddyTelling_0 rfl rfl ?_
  refine z_iconst dX7_muddyTelling_1 ?_
  refine z_callVv (i := 0) (ci := 7) (As := [.int (iI 2)]) (rest := []) (c_X7_leaveTrace  hq ) dX7_muddyTelling_2 gX7_muddyTelling_X7_leaveTrace rfl cd_X7_leaveTrace ⟨Nat.le_of_ble_eq_true rfl, Nat.le_of_ble_eq_true rfl⟩ rfl rfl (by omega) rfl rfl rfl (Nat.le_of_ble_eq_true rfl) ⟨Nat.zero_le _, Nat.zero_le _⟩ (fun g_2 hp_2 => ?_)
  obtain ⟨xi_2, he_2, rfl⟩ := hp_2
  refine z_aload_n (j := 0) dX7_muddyTelling_5 rfl rfl ?_
  refine z_iload_n (j := 1) dX7_muddyTelling_6 rfl rfl ?_
  refine z_callVi (i := 0) (ci := 7) (As := [.int (iI z)]) (rest := []) (c_X7_gravelTelling  hq hw (RvOk_eq (by rw [he_2, up_n (by omega)]) (by rw [he_2, up_n (by omega)]) rfl rfl rfl rfl hR) (by rw [he_2, up_n (by omega)]; exact hz)) dX7_muddyTelling_7 gX7_muddyTelling_X7_gravelTelling rfl cd_X7_gravelTelling ⟨Nat.le_of_ble_eq_true rfl, Nat.le_of_ble_eq_true rfl⟩ rfl rfl (by omega) rfl rfl rfl (Nat.le_of_ble_eq_true rfl) ⟨Nat.zero_le _, Nat.zero_le _⟩ (fun r_7 g_7 hp_7 => ?_)
  obtain ⟨e_7, xi_7, he_7, rfl, rfl⟩ := hp_7
  refine z_bipush dX7_muddyTelling_10 (by decide) ?_
  refine z_iadd dX7_muddyTelling_12 ?_
  exact z_iret dX7_muddyTelling_13 ⟨_, _, (⟨by rw [he_7.1], by rw [he_7.2, he_2, up_s, bx_uu]; rfl⟩), rfl, rfl⟩
theorem cd_X7_muddyTelling : yX7_muddyTelling.cls = RX7 ∧ yX7_muddyTelling.cls ≠ "java/lang/invoke/MethodHandle" ∧ yX7_muddyTelling.cls ≠ "java/lang/invoke/VarHandle" ∧ (parseMethodDescriptor yX7_muddyTelling.desc).map (fun d => d.parameters.length) = some 1 := ⟨rfl, by decide +kernel, by decide +kernel, by decide +kernel⟩
set_option maxHeartbeats 400000 in
set_option maxRecDepth 100000 in
theorem c_X7_clayTelling {l : Launch} {D : va_G} {cI cJ cZ cR : ClassId} {q : Nat → Nat} {w d : Nat} {xi : Nat → Int} {xa : Nat → Nat → Int} (hq : qOk 31 q) {z : Int} (hw : w < 2) (hR : RvOk xi xa w) (hz : 0 ≤ z ∧ z < xi (10 + w)) : Cti l D vwCl (tysC cI cJ cZ cR) 31 q yX7_clayTelling wsX7_clayTelling ({ frames := 4, cells := 0, slots := 0, locals := 84 } : Room) [.ref (q 0), .int (iI z)] (cX cI cJ cZ cR q w d xi xa) (fun (r : Int32) (g : Nat → va_E) => ∃ (e : Int) (xi' : Nat → Int), (e = 2 * xa (6 + w) z.toNat + 100 ∧ xi' = va_up xi 0 (trs (xi 0) [3, 2, 1, 1])) ∧ r = iI e ∧ g = (cX cI cJ cZ cR q w d xi' xa)) := by
  refine Cti.of (cc := cX7_clayTelling) (nL := 3) (own := RX7) (ret := (some .int)) (by decide) rfl rfl hq (Nat.le_of_ble_eq_true rfl) (fun p e s m args below meth c => ?_)
  obtain ⟨hN, hP, hK, hM, hD, hB⟩ := id hR
  have hMz := hM z.toNat
  refine z_aload_n (j := 0) dX7_clayTelling_0 rfl rfl ?_
  refine z_iconst dX7_clayTelling_1 ?_
  refine z_callVv (i := 0) (ci := 7) (As := [.int (iI 3)]) (rest := []) (c_X7_leaveTrace  hq ) dX7_clayTelling_2 gX7_clayTelling_X7_leaveTrace rfl cd_X7_leaveTrace ⟨Nat.le_of_ble_eq_true rfl, Nat.le_of_ble_eq_true rfl⟩ rfl rfl (by omega) rfl rfl rfl (Nat.le_of_ble_eq_true rfl) ⟨Nat.zero_le _, Nat.zero_le _⟩ (fun g_2 hp_2 => ?_)
  obtain ⟨xi_2, he_2, rfl⟩ := hp_2
  refine z_aload_n (j := 0) dX7_clayTelling_5 rfl rfl ?_
  refine z_iload_n (j := 1) dX7_clayTelling_6 rfl rfl ?_
  refine z_callVi (i := 0) (ci := 7) (As := [.int (iI z)]) (rest := []) (c_X7_muddyTelling  hq hw (RvOk_eq (by rw [he_2, up_n (by omega)]) (by rw [he_2, up_n (by omega)]) rfl rfl rfl rfl hR) (by rw [he_2, up_n (by omega)]; exact hz)) dX7_clayTelling_7 gX7_clayTelling_X7_muddyTelling rfl cd_X7_muddyTelling ⟨Nat.le_of_ble_eq_true rfl, Nat.le_of_ble_eq_true rfl⟩ rfl rfl (by omega) rfl rfl rfl (Nat.le_of_ble_eq_true rfl) ⟨Nat.zero_le _, Nat.zero_le _⟩ (fun r_7 g_7 hp_7 => ?_)
  obtain ⟨e_7, xi_7, he_7, rfl, rfl⟩ := hp_7
  refine z_istore_n [(2, .int (iI e_7)), (0, .ref (q 0)), (1, .int (iI z))] dX7_clayTelling_10 rfl (by decide) rfl ?_
  refine z_iload_n (j := 0) dX7_clayTelling_11 rfl rfl ?_
  refine z_aload_n (j := 1) dX7_clayTelling_12 rfl rfl ?_
  refine z_iload_n (j := 2) dX7_clayTelling_13 rfl rfl ?_
  refine z_callVi (i := 0) (ci := 7) (As := [.int (iI z)]) (rest := [.int (iI e_7)]) (c_X7_gravelTelling  hq hw (RvOk_eq (by rw [he_7.2, up_n (by omega), he_2, up_n (by omega)]) (by rw [he_7.2, up_n (by omega), he_2, up_n (by omega)]) rfl rfl rfl rfl hR) (by rw [he_7.2, up_n (by omega), he_2, up_n (by omega)]; exact hz)) dX7_clayTelling_14 gX7_clayTelling_X7_gravelTelling rfl cd_X7_gravelTelling ⟨Nat.le_of_ble_eq_true rfl, Nat.le_of_ble_eq_true rfl⟩ rfl rfl (by omega) rfl rfl rfl (Nat.le_of_ble_eq_true rfl) ⟨Nat.zero_le _, Nat.zero_le _⟩ (fun r_14 g_14 hp_14 => ?_)
  obtain ⟨e_14, xi_14, he_14, rfl, rfl⟩ := hp_14
  refine z_iadd dX7_clayTelling_17 ?_
  exact z_iret dX7_clayTelling_18 ⟨_, _, (⟨by rw [he_7.1, he_14.1]; omega, by rw [he_14.2, he_7.2, he_2, up_s, bx_uu, up_s, bx_uu]; rfl⟩), rfl, rfl⟩
theorem m_X7_trace_f263 : Cond.fieldLink RX7 263 "PoleBehind" "traced" "I" ∈ wsX7_trace := List.mem_of_getElem? (i := 1) rfl
theorem in_X7_trace_X7 : ∀ w ∈ wsX70, w ∈ wsX7_trace := fun _ h => List.mem_cons_of_mem _ (List.mem_append_right _ h)
set_option maxHeartbeats 400000 in
set_option maxRecDepth 100000 in
theorem c_X7_trace {l : Launch} {D : va_G} {cI cJ cZ cR : ClassId} {q : Nat → Nat} {w d : Nat} {xi : Nat → Int} {xa : Nat → Nat → Int} (hq : qOk 31 q)  (hO : XOk w d xi xa) : Cti l D vwCl (tysC cI cJ cZ cR) 31 q yX7_trace wsX7_trace ({ frames := 0, cells := 0, slots := 0, locals := 0 } : Room) [.ref (q 0)] (cX cI cJ cZ cR q w d xi xa) (fun (r : Int32) (g : Nat → va_E) => (∃ e : Int, (e = aTr (vX w xi xa)) ∧ r = iI e) ∧ g = (cX cI cJ cZ cR q w d xi xa)) := by
  refine Cti.of (cc := cX7_trace) (nL := 1) (own := RX7) (ret := (some .int)) (by decide) rfl rfl hq (Nat.le_of_ble_eq_true rfl) (fun p e s m args below meth c => ?_)
  obtain ⟨⟨hw, hd⟩, hRows, hRvs, hn2, ⟨hRd, hRd2⟩, hJ, ⟨hst, hTab⟩, hfa, hsg⟩ := id hO
  have hRw := hRvs w hw
  obtain ⟨hN, hP, hK, hM, hD, hB⟩ := id hRw
  have hnA : rN (aR (vX w xi xa)) = xi (10 + w) := rfl
  have hO0 := XOk_fa (f := 0) hO (by omega)
  refine z_aload_n (j := 0) dX7_trace_0 rfl rfl ?_
  refine z_getf (i := 0) (ci := 7) (k := 8) (v := .int (iI (xi 0))) dX7_trace_1 m_X7_trace_f263 in_X7_trace_X7 rfl (by decide) rfl (by omega) rfl rfl ?_
  exact z_iret dX7_trace_4 ⟨⟨_, (rfl), rfl⟩, rfl⟩
theorem m_X7_fault_f63 : Cond.fieldLink RX7 63 "PoleBehind" "lastFault" "I" ∈ wsX7_fault := List.mem_of_getElem? (i := 1) rfl
theorem in_X7_fault_X7 : ∀ w ∈ wsX70, w ∈ wsX7_fault := fun _ h => List.mem_cons_of_mem _ (List.mem_append_right _ h)
set_option maxHeartbeats 400000 in
set_option maxRecDepth 100000 in
theorem c_X7_fault {l : Launch} {D : va_G} {cI cJ cZ cR : ClassId} {q : Nat → Nat} {w d : Nat} {xi : Nat → Int} {xa : Nat → Nat → Int} (hq : qOk 31 q)  (hO : XOk w d xi xa) : Cti l D vwCl (tysC cI cJ cZ cR) 31 q yX7_fault wsX7_fault ({ frames := 0, cells := 0, slots := 0, locals := 0 } : Room) [.ref (q 0)] (cX cI cJ cZ cR q w d xi xa) (fun (r : Int32) (g : Nat → va_E) => (∃ e : Int, (e = aFa (vX w xi xa)) ∧ r = iI e) ∧ g = (cX cI cJ cZ cR q w d xi xa)) := by
  refine Cti.of (cc := cX7_fault) (nL := 1) (own := RX7) (ret := (some .int)) (by decide) rfl rfl hq (Nat.le_of_ble_eq_true rfl) (fun p e s m args below meth c => ?_)
  obtain ⟨⟨hw, hd⟩, hRows, hRvs, hn2, ⟨hRd, hRd2⟩, hJ, ⟨hst, hTab⟩, hfa, hsg⟩ := id hO
  have hRw := hRvs w hw
  obtain ⟨hN, hP, hK, hM, hD, hB⟩ := id hRw
  have hnA : rN (aR (vX w xi xa)) = xi (10 + w) := rfl
  have hO0 := XOk_fa (f := 0) hO (by omega)
  refine z_aload_n (j := 0) dX7_fault_0 rfl rfl ?_
  refine z_getf (i := 0) (ci := 7) (k := 9) (v := .int (iI (xi 1))) dX7_fault_1 m_X7_fault_f63 in_X7_fault_X7 rfl (by decide) rfl (by omega) rfl rfl ?_
  exact z_iret dX7_fault_4 ⟨⟨_, (rfl), rfl⟩, rfl⟩
theorem m_X7_many_f20 : Cond.fieldLink RX7 20 "PoleBehind" "water" "LPoleBehind$River;" ∈ wsX7_many := List.mem_of_getElem? (i := 1) rfl
theorem in_X7_many_X7 : ∀ w ∈ wsX70, w ∈ wsX7_many := fun _ h => List.mem_cons_of_mem _ (List.mem_append_left _ (List.mem_append_left _ (List.mem_append_right _ h)))
theorem nwf_X7_93 : Cond.fieldLinkNest RX7 93 "PoleBehind$River" "count" "I" "PoleBehind" ∈ NWl := List.mem_of_getElem? (i := 2) rfl
theorem in_X7_many_X2 : ∀ w ∈ wsX20, w ∈ wsX7_many := fun _ h => List.mem_cons_of_mem _ (List.mem_append_left _ (List.mem_append_right _ h))
theorem nwf_X7_122 : Cond.fieldLinkNest RX7 122 "PoleBehind$River" "paceAtFirst" "I" "PoleBehind" ∈ NWl := List.mem_of_getElem? (i := 4) rfl
theorem cd_X2_bridgeCount : yX2_bridgeCount.cls = RX2 ∧ yX2_bridgeCount.cls ≠ "java/lang/invoke/MethodHandle" ∧ yX2_bridgeCount.cls ≠ "java/lang/invoke/VarHandle" ∧ (parseMethodDescriptor yX2_bridgeCount.desc).map (fun d => d.parameters.length) = some 0 := ⟨rfl, by decide +kernel, by decide +kernel, by decide +kernel⟩
theorem m_X7_many_f44 : Cond.fieldLink RX7 44 "PoleBehind" "readings" "LPoleBehind$Readings;" ∈ wsX7_many := List.mem_of_getElem? (i := 2) rfl
theorem nwf_X7_132 : Cond.fieldLinkNest RX7 132 "PoleBehind$Readings" "count" "I" "PoleBehind" ∈ NWl := List.mem_of_getElem? (i := 10) rfl
theorem in_X7_many_X1 : ∀ w ∈ wsX10, w ∈ wsX7_many := fun _ h => List.mem_cons_of_mem _ (List.mem_append_right _ h)
set_option maxHeartbeats 400000 in
set_option maxRecDepth 100000 in
theorem c_X7_many {l : Launch} {D : va_G} {cI cJ cZ cR : ClassId} {q : Nat → Nat} {w d : Nat} {xi : Nat → Int} {xa : Nat → Nat → Int} (hq : qOk 31 q) {wh : Int} (hO : XOk w d xi xa) (hwh : -2147483648 ≤ wh ∧ wh < 2147483648) : Cti l D vwCl (tysC cI cJ cZ cR) 31 q yX7_many wsX7_many ({ frames := 3, cells := 0, slots := 0, locals := 64 } : Room) [.ref (q 0), .int (iI wh)] (cX cI cJ cZ cR q w d xi xa) (fun (r : Int32) (g : Nat → va_E) => (∃ e : Int, (spMany (vX w xi xa) wh e) ∧ r = iI e) ∧ g = (cX cI cJ cZ cR q w d xi xa)) := by
  refine Cti.of (cc := cX7_many) (nL := 2) (own := RX7) (ret := (some .int)) (by decide) rfl rfl hq (Nat.le_of_ble_eq_true rfl) (fun p e s m args below meth c => ?_)
  obtain ⟨⟨hw, hd⟩, hRows, hRvs, hn2, ⟨hRd, hRd2⟩, hJ, ⟨hst, hTab⟩, hfa, hsg⟩ := id hO
  have hRw := hRvs w hw
  obtain ⟨hN, hP, hK, hM, hD, hB⟩ := id hRw
  have hnA : rN (aR (vX w xi xa)) = xi (10 + w) := rfl
  have hO0 := XOk_fa (f := 0) hO (by omega)
  refine z_iload_n (j := 1) dX7_many_0 rfl rfl ?_
  by_cases k_1_0 : wh = 0
  · refine z_tsw (kv := 0) (off := 31) (tgt := 32) dX7_many_1 (by omega) k_1_0 (by decide) (by decide) rfl (by decide) ?_
    refine z_aload_n (j := 0) dX7_many_32 rfl rfl ?_
    refine z_getf (i := 0) (ci := 7) (k := 1) (v := .ref (q (10 + w))) dX7_many_33 m_X7_many_f20 in_X7_many_X7 rfl (by decide) rfl (by omega) rfl rfl ?_
    refine z_getfN (i := 10 + w) (ci := 2) (k := 4) (v := .int (iI (xi (10 + w)))) dX7_many_36 nwf_X7_93 in_X7_many_X2 rfl (by decide) rfl (by omega) (cX_rv hw) rfl ?_
    exact z_iret dX7_many_39 ⟨⟨_, (by unfold spMany; rw [if_pos (by omega)]; rfl), rfl⟩, rfl⟩
  ·
    by_cases k_1_1 : wh = 1
    · refine z_tsw (kv := 1) (off := 39) (tgt := 40) dX7_many_1 (by omega) k_1_1 (by decide) (by decide) rfl (by decide) ?_
      refine z_aload_n (j := 0) dX7_many_40 rfl rfl ?_
      refine z_getf (i := 0) (ci := 7) (k := 1) (v := .ref (q (10 + w))) dX7_many_41 m_X7_many_f20 in_X7_many_X7 rfl (by decide) rfl (by omega) rfl rfl ?_
      refine z_getfN (i := 10 + w) (ci := 2) (k := 5) (v := .int (iI (xi (12 + w)))) dX7_many_44 nwf_X7_122 in_X7_many_X2 rfl (by decide) rfl (by omega) (cX_rv hw) rfl ?_
      exact z_iret dX7_many_47 ⟨⟨_, (by unfold spMany; rw [if_neg (by omega), if_pos (by omega)]; rfl), rfl⟩, rfl⟩
    ·
      by_cases k_1_2 : wh = 2
      · refine z_tsw (kv := 2) (off := 47) (tgt := 48) dX7_many_1 (by omega) k_1_2 (by decide) (by decide) rfl (by decide) ?_
        refine z_aload_n (j := 0) dX7_many_48 rfl rfl ?_
        refine z_getf (i := 0) (ci := 7) (k := 1) (v := .ref (q (10 + w))) dX7_many_49 m_X7_many_f20 in_X7_many_X7 rfl (by decide) rfl (by omega) rfl rfl ?_
        refine z_callVi (i := 10 + w) (ci := 2) (As := []) (rest := []) (c_X2_bridgeCount  hq hw hRw) dX7_many_52 gX7_many_X2_bridgeCount rfl cd_X2_bridgeCount ⟨Nat.le_of_ble_eq_true rfl, Nat.le_of_ble_eq_true rfl⟩ rfl rfl (by omega) (cX_rv hw) rfl rfl (Nat.le_of_ble_eq_true rfl) ⟨Nat.zero_le _, Nat.zero_le _⟩ (fun r_52 g_52 hp_52 => ?_)
        obtain ⟨⟨_, rfl, rfl⟩, rfl⟩ := hp_52
        exact z_iret dX7_many_55 ⟨⟨_, (by unfold spMany; rw [if_neg (by omega), if_neg (by omega), if_pos (by omega)]; rfl), rfl⟩, rfl⟩
      ·
        by_cases k_1_3 : wh = 3
        · refine z_tsw (kv := 3) (off := 55) (tgt := 56) dX7_many_1 (by omega) k_1_3 (by decide) (by decide) rfl (by decide) ?_
          refine z_aload_n (j := 0) dX7_many_56 rfl rfl ?_
          refine z_getf (i := 0) (ci := 7) (k := 5) (v := .ref (q 24)) dX7_many_57 m_X7_many_f44 in_X7_many_X7 rfl (by decide) rfl (by omega) rfl rfl ?_
          refine z_getfN (i := 24) (ci := 1) (k := 2) (v := .int (iI (xi 18))) dX7_many_60 nwf_X7_132 in_X7_many_X1 rfl (by decide) rfl (by omega) rfl rfl ?_
          exact z_iret dX7_many_63 ⟨⟨_, (by unfold spMany; rw [if_neg (by omega), if_neg (by omega), if_neg (by omega), if_pos (by omega)]; rfl), rfl⟩, rfl⟩
        ·
          refine z_tswD (tgt := 64) dX7_many_1 (by omega) (by omega) (by decide) ?_
          refine z_bipush dX7_many_64 (by decide) ?_
          exact z_iret dX7_many_66 ⟨⟨_, (by unfold spMany; rw [if_neg (by omega), if_neg (by omega), if_neg (by omega), if_neg (by omega)]), rfl⟩, rfl⟩
theorem m_X7_ofCell_f20 : Cond.fieldLink RX7 20 "PoleBehind" "water" "LPoleBehind$River;" ∈ wsX7_ofCell := List.mem_of_getElem? (i := 1) rfl
theorem in_X7_ofCell_X7 : ∀ w ∈ wsX70, w ∈ wsX7_ofCell := fun _ h => List.mem_cons_of_mem _ (List.mem_append_left _ (List.mem_append_right _ h))
set_option maxHeartbeats 400000 in
set_option maxRecDepth 100000 in
theorem c_X7_ofCell {l : Launch} {D : va_G} {cI cJ cZ cR : ClassId} {q : Nat → Nat} {w d : Nat} {xi : Nat → Int} {xa : Nat → Nat → Int} (hq : qOk 31 q) {z wh : Int} (hO : XOk w d xi xa) (hz : -2147483648 ≤ z ∧ z < 2147483648) (hwh : -2147483648 ≤ wh ∧ wh < 2147483648) : Cti l D vwCl (tysC cI cJ cZ cR) 31 q yX7_ofCell wsX7_ofCell ({ frames := 3, cells := 0, slots := 0, locals := 65 } : Room) [.ref (q 0), .int (iI z), .int (iI wh)] (cX cI cJ cZ cR q w d xi xa) (fun (r : Int32) (g : Nat → va_E) => (∃ e : Int, (spOfCell (vX w xi xa) z wh e) ∧ r = iI e) ∧ g = (cX cI cJ cZ cR q w d xi xa)) := by
  refine Cti.of (cc := cX7_ofCell) (nL := 3) (own := RX7) (ret := (some .int)) (by decide) rfl rfl hq (Nat.le_of_ble_eq_true rfl) (fun p e s m args below meth c => ?_)
  obtain ⟨⟨hw, hd⟩, hRows, hRvs, hn2, ⟨hRd, hRd2⟩, hJ, ⟨hst, hTab⟩, hfa, hsg⟩ := id hO
  have hRw := hRvs w hw
  obtain ⟨hN, hP, hK, hM, hD, hB⟩ := id hRw
  have hnA : rN (aR (vX w xi xa)) = xi (10 + w) := rfl
  have hO0 := XOk_fa (f := 0) hO (by omega)
  have hdz := hD z.toNat
  have hbz := hB z.toNat
  have hin : 0 ≤ z → z < xi (10 + w) → ((z.toNat : Nat) : Int) < xi (10 + w) := by omega
  refine z_aload_n (j := 0) dX7_ofCell_0 rfl rfl ?_
  refine z_getf (i := 0) (ci := 7) (k := 1) (v := .ref (q (10 + w))) dX7_ofCell_1 m_X7_ofCell_f20 in_X7_ofCell_X7 rfl (by decide) rfl (by omega) rfl rfl ?_
  refine z_iload_n (j := 1) dX7_ofCell_4 rfl rfl ?_
  refine z_callVi (i := 10 + w) (ci := 2) (As := [.int (iI z)]) (rest := []) (c_X2_has  hq hw hRw (by omega)) dX7_ofCell_5 gX7_ofCell_X2_has rfl cd_X2_has ⟨Nat.le_of_ble_eq_true rfl, Nat.le_of_ble_eq_true rfl⟩ rfl rfl (by omega) (cX_rv hw) rfl rfl (Nat.le_of_ble_eq_true rfl) ⟨Nat.zero_le _, Nat.zero_le _⟩ (fun r_5 g_5 hp_5 => ?_)
  obtain ⟨⟨h_5, rfl⟩ | ⟨h_5, rfl⟩, rfl⟩ := hp_5
  · refine z_if_ne (tgt := 13) dX7_ofCell_8 (by decide) (by decide) (fun _ => ?_) (fun h => absurd h (by decide))
    refine z_iload_n (j := 2) dX7_ofCell_13 rfl rfl ?_
    by_cases k_14_0 : wh = 0
    · refine z_tsw (kv := 0) (off := 34) (tgt := 48) dX7_ofCell_14 (by omega) k_14_0 (by decide) (by decide) rfl (by decide) ?_
      refine z_aload_n (j := 0) dX7_ofCell_48 rfl rfl ?_
      refine z_getf (i := 0) (ci := 7) (k := 1) (v := .ref (q (10 + w))) dX7_ofCell_49 m_X7_ofCell_f20 in_X7_ofCell_X7 rfl (by decide) rfl (by omega) rfl rfl ?_
      refine z_iload_n (j := 1) dX7_ofCell_52 rfl rfl ?_
      refine z_callVi (i := 10 + w) (ci := 2) (As := [.int (iI z)]) (rest := []) (c_X2_kindOf  hq hw hRw (by omega)) dX7_ofCell_53 gX7_ofCell_X2_kindOf rfl cd_X2_kindOf ⟨Nat.le_of_ble_eq_true rfl, Nat.le_of_ble_eq_true rfl⟩ rfl rfl (by omega) (cX_rv hw) rfl rfl (Nat.le_of_ble_eq_true rfl) ⟨Nat.zero_le _, Nat.zero_le _⟩ (fun r_53 g_53 hp_53 => ?_)
      obtain ⟨⟨e_53, he_53, rfl⟩, rfl⟩ := hp_53
      exact z_iret dX7_ofCell_56 ⟨⟨_, (by unfold spOfCell; rw [if_neg (show ¬ ¬ (0 ≤ z ∧ z < rN (aR (vX w xi xa))) from not_not_intro (by rw [hnA]; omega)), if_pos (by omega), he_53, if_pos h_5]; exact (nrm_in (by omega)).symm), rfl⟩, rfl⟩
    ·
      by_cases k_14_1 : wh = 1
      · refine z_tsw (kv := 1) (off := 43) (tgt := 57) dX7_ofCell_14 (by omega) k_14_1 (by decide) (by decide) rfl (by decide) ?_
        refine z_aload_n (j := 0) dX7_ofCell_57 rfl rfl ?_
        refine z_getf (i := 0) (ci := 7) (k := 1) (v := .ref (q (10 + w))) dX7_ofCell_58 m_X7_ofCell_f20 in_X7_ofCell_X7 rfl (by decide) rfl (by omega) rfl rfl ?_
        refine z_iload_n (j := 1) dX7_ofCell_61 rfl rfl ?_
        refine z_callVi (i := 10 + w) (ci := 2) (As := [.int (iI z)]) (rest := []) (c_X2_mudOf  hq hw hRw (by omega)) dX7_ofCell_62 gX7_ofCell_X2_mudOf rfl cd_X2_mudOf ⟨Nat.le_of_ble_eq_true rfl, Nat.le_of_ble_eq_true rfl⟩ rfl rfl (by omega) (cX_rv hw) rfl rfl (Nat.le_of_ble_eq_true rfl) ⟨Nat.zero_le _, Nat.zero_le _⟩ (fun r_62 g_62 hp_62 => ?_)
        obtain ⟨⟨e_62, he_62, rfl⟩, rfl⟩ := hp_62
        exact z_iret dX7_ofCell_65 ⟨⟨_, (by unfold spOfCell; rw [if_neg (show ¬ ¬ (0 ≤ z ∧ z < rN (aR (vX w xi xa))) from not_not_intro (by rw [hnA]; omega)), if_neg (by omega), if_pos (by omega), he_62, if_pos h_5]; exact (nrm_in (by omega)).symm), rfl⟩, rfl⟩
      ·
        by_cases k_14_2 : wh = 2
        · refine z_tsw (kv := 2) (off := 52) (tgt := 66) dX7_ofCell_14 (by omega) k_14_2 (by decide) (by decide) rfl (by decide) ?_
          refine z_aload_n (j := 0) dX7_ofCell_66 rfl rfl ?_
          refine z_getf (i := 0) (ci := 7) (k := 1) (v := .ref (q (10 + w))) dX7_ofCell_67 m_X7_ofCell_f20 in_X7_ofCell_X7 rfl (by decide) rfl (by omega) rfl rfl ?_
          refine z_iload_n (j := 1) dX7_ofCell_70 rfl rfl ?_
          refine z_callVi (i := 10 + w) (ci := 2) (As := [.int (iI z)]) (rest := []) (c_X2_holdsIn  hq hw hRw (by omega)) dX7_ofCell_71 gX7_ofCell_X2_holdsIn rfl cd_X2_holdsIn ⟨Nat.le_of_ble_eq_true rfl, Nat.le_of_ble_eq_true rfl⟩ rfl rfl (by omega) (cX_rv hw) rfl rfl (Nat.le_of_ble_eq_true rfl) ⟨Nat.zero_le _, Nat.zero_le _⟩ (fun r_71 g_71 hp_71 => ?_)
          obtain ⟨⟨_, rfl, rfl⟩, rfl⟩ := hp_71
          exact z_iret dX7_ofCell_74 ⟨⟨_, (by unfold spOfCell; rw [if_neg (show ¬ ¬ (0 ≤ z ∧ z < rN (aR (vX w xi xa))) from not_not_intro (by rw [hnA]; omega)), if_neg (by omega), if_neg (by omega), if_pos (by omega)]; rfl), rfl⟩, rfl⟩
        ·
          by_cases k_14_3 : wh = 3
          · refine z_tsw (kv := 3) (off := 61) (tgt := 75) dX7_ofCell_14 (by omega) k_14_3 (by decide) (by decide) rfl (by decide) ?_
            refine z_aload_n (j := 0) dX7_ofCell_75 rfl rfl ?_
            refine z_getf (i := 0) (ci := 7) (k := 1) (v := .ref (q (10 + w))) dX7_ofCell_76 m_X7_ofCell_f20 in_X7_ofCell_X7 rfl (by decide) rfl (by omega) rfl rfl ?_
            refine z_iload_n (j := 1) dX7_ofCell_79 rfl rfl ?_
            refine z_callVi (i := 10 + w) (ci := 2) (As := [.int (iI z)]) (rest := []) (c_X2_isDeep  hq hw hRw (by omega)) dX7_ofCell_80 gX7_ofCell_X2_isDeep rfl cd_X2_isDeep ⟨Nat.le_of_ble_eq_true rfl, Nat.le_of_ble_eq_true rfl⟩ rfl rfl (by omega) (cX_rv hw) rfl rfl (Nat.le_of_ble_eq_true rfl) ⟨Nat.zero_le _, Nat.zero_le _⟩ (fun r_80 g_80 hp_80 => ?_)
            obtain ⟨⟨h_80, rfl⟩ | ⟨h_80, rfl⟩, rfl⟩ := hp_80
            · refine z_callSi (As := [.int (iI 1)]) (rest := []) (c_X7_asBit  hq (by omega)) dX7_ofCell_83 gX7_ofCell_X7_asBit rfl cd_X7_asBit ⟨Nat.le_of_ble_eq_true rfl, Nat.le_of_ble_eq_true rfl⟩ rfl rfl rfl (Nat.le_of_ble_eq_true rfl) ⟨Nat.zero_le _, Nat.zero_le _⟩ (fun r_83 g_83 hp_83 => ?_)
              obtain ⟨⟨_, rfl, rfl⟩, rfl⟩ := hp_83
              exact z_iret dX7_ofCell_86 ⟨⟨_, (by unfold spOfCell; rw [if_neg (show ¬ ¬ (0 ≤ z ∧ z < rN (aR (vX w xi xa))) from not_not_intro (by rw [hnA]; omega)), if_neg (by omega), if_neg (by omega), if_neg (by omega), if_pos (by omega), show rD (aR (vX w xi xa)) z.toNat = xa (8 + w) z.toNat from nrm_in (by omega)]; omega), rfl⟩, rfl⟩
            · refine z_callSi (As := [.int (iI 0)]) (rest := []) (c_X7_asBit  hq (by omega)) dX7_ofCell_83 gX7_ofCell_X7_asBit rfl cd_X7_asBit ⟨Nat.le_of_ble_eq_true rfl, Nat.le_of_ble_eq_true rfl⟩ rfl rfl rfl (Nat.le_of_ble_eq_true rfl) ⟨Nat.zero_le _, Nat.zero_le _⟩ (fun r_83 g_83 hp_83 => ?_)
              obtain ⟨⟨_, rfl, rfl⟩, rfl⟩ := hp_83
              exact z_iret dX7_ofCell_86 ⟨⟨_, (by unfold spOfCell; rw [if_neg (show ¬ ¬ (0 ≤ z ∧ z < rN (aR (vX w xi xa))) from not_not_intro (by rw [hnA]; omega)), if_neg (by omega), if_neg (by omega), if_neg (by omega), if_pos (by omega), show rD (aR (vX w xi xa)) z.toNat = xa (8 + w) z.toNat from nrm_in (by omega)]; omega), rfl⟩, rfl⟩
          ·
            by_cases k_14_4 : wh = 4
            · refine z_tsw (kv := 4) (off := 73) (tgt := 87) dX7_ofCell_14 (by omega) k_14_4 (by decide) (by decide) rfl (by decide) ?_
              refine z_aload_n (j := 0) dX7_ofCell_87 rfl rfl ?_
              refine z_getf (i := 0) (ci := 7) (k := 1) (v := .ref (q (10 + w))) dX7_ofCell_88 m_X7_ofCell_f20 in_X7_ofCell_X7 rfl (by decide) rfl (by omega) rfl rfl ?_
              refine z_iload_n (j := 1) dX7_ofCell_91 rfl rfl ?_
              refine z_callVi (i := 10 + w) (ci := 2) (As := [.int (iI z)]) (rest := []) (c_X2_isBridged  hq hw hRw (by omega)) dX7_ofCell_92 gX7_ofCell_X2_isBridged rfl cd_X2_isBridged ⟨Nat.le_of_ble_eq_true rfl, Nat.le_of_ble_eq_true rfl⟩ rfl rfl (by omega) (cX_rv hw) rfl rfl (Nat.le_of_ble_eq_true rfl) ⟨Nat.zero_le _, Nat.zero_le _⟩ (fun r_92 g_92 hp_92 => ?_)
              obtain ⟨⟨h_92, rfl⟩ | ⟨h_92, rfl⟩, rfl⟩ := hp_92
              · refine z_callSi (As := [.int (iI 1)]) (rest := []) (c_X7_asBit  hq (by omega)) dX7_ofCell_95 gX7_ofCell_X7_asBit rfl cd_X7_asBit ⟨Nat.le_of_ble_eq_true rfl, Nat.le_of_ble_eq_true rfl⟩ rfl rfl rfl (Nat.le_of_ble_eq_true rfl) ⟨Nat.zero_le _, Nat.zero_le _⟩ (fun r_95 g_95 hp_95 => ?_)
                obtain ⟨⟨_, rfl, rfl⟩, rfl⟩ := hp_95
                exact z_iret dX7_ofCell_98 ⟨⟨_, (by unfold spOfCell; rw [if_neg (show ¬ ¬ (0 ≤ z ∧ z < rN (aR (vX w xi xa))) from not_not_intro (by rw [hnA]; omega)), if_neg (by omega), if_neg (by omega), if_neg (by omega), if_neg (by omega), if_pos (by omega), show rB (aR (vX w xi xa)) z.toNat = xa (10 + w) z.toNat from nrm_in (by omega)]; omega), rfl⟩, rfl⟩
              · refine z_callSi (As := [.int (iI 0)]) (rest := []) (c_X7_asBit  hq (by omega)) dX7_ofCell_95 gX7_ofCell_X7_asBit rfl cd_X7_asBit ⟨Nat.le_of_ble_eq_true rfl, Nat.le_of_ble_eq_true rfl⟩ rfl rfl rfl (Nat.le_of_ble_eq_true rfl) ⟨Nat.zero_le _, Nat.zero_le _⟩ (fun r_95 g_95 hp_95 => ?_)
                obtain ⟨⟨_, rfl, rfl⟩, rfl⟩ := hp_95
                exact z_iret dX7_ofCell_98 ⟨⟨_, (by unfold spOfCell; rw [if_neg (show ¬ ¬ (0 ≤ z ∧ z < rN (aR (vX w xi xa))) from not_not_intro (by rw [hnA]; omega)), if_neg (by omega), if_neg (by omega), if_neg (by omega), if_neg (by omega), if_pos (by omega), show rB (aR (vX w xi xa)) z.toNat = xa (10 + w) z.toNat from nrm_in (by omega)]; omega), rfl⟩, rfl⟩
            ·
              refine z_tswD (tgt := 99) dX7_ofCell_14 (by omega) (by omega) (by decide) ?_
              refine z_bipush dX7_ofCell_99 (by decide) ?_
              exact z_iret dX7_ofCell_101 ⟨⟨_, (by unfold spOfCell; rw [if_neg (show ¬ ¬ (0 ≤ z ∧ z < rN (aR (vX w xi xa))) from not_not_intro (by rw [hnA]; omega)), if_neg (by omega), if_neg (by omega), if_neg (by omega), if_neg (by omega), if_neg (by omega)]), rfl⟩, rfl⟩
  · refine z_if_ne (tgt := 13) dX7_ofCell_8 (by decide) (by decide) (fun h => absurd h (by decide)) (fun _ => ?_)
    refine z_iconst dX7_ofCell_11 ?_
    exact z_iret dX7_ofCell_12 ⟨⟨_, (by unfold spOfCell; rw [if_pos (show ¬ (0 ≤ z ∧ z < rN (aR (vX w xi xa))) by rw [hnA]; omega)]), rfl⟩, rfl⟩
theorem m_X7_pace_f20 : Cond.fieldLink RX7 20 "PoleBehind" "water" "LPoleBehind$River;" ∈ wsX7_pace := List.mem_of_getElem? (i := 1) rfl
theorem in_X7_pace_X7 : ∀ w ∈ wsX70, w ∈ wsX7_pace := fun _ h => List.mem_cons_of_mem _ (List.mem_append_left _ (List.mem_append_right _ h))
theorem cd_X2_isNone : yX2_isNone.cls = RX2 ∧ yX2_isNone.cls ≠ "java/lang/invoke/MethodHandle" ∧ yX2_isNone.cls ≠ "java/lang/invoke/VarHandle" ∧ (parseMethodDescriptor yX2_isNone.desc).map (fun d => d.parameters.length) = some 0 := ⟨rfl, by decide +kernel, by decide +kernel, by decide +kernel⟩
theorem in_X7_pace_X2 : ∀ w ∈ wsX20, w ∈ wsX7_pace := fun _ h => List.mem_cons_of_mem _ (List.mem_append_right _ h)
set_option maxHeartbeats 400000 in
set_option maxRecDepth 100000 in
theorem c_X7_pace {l : Launch} {D : va_G} {cI cJ cZ cR : ClassId} {q : Nat → Nat} {w d : Nat} {xi : Nat → Int} {xa : Nat → Nat → Int} (hq : qOk 31 q) {v : Int} (hO : XOk w d xi xa) (hv : -2147483648 ≤ v ∧ v < 2147483648) : Cti l D vwCl (tysC cI cJ cZ cR) 31 q yX7_pace wsX7_pace ({ frames := 1, cells := 0, slots := 0, locals := 20 } : Room) [.ref (q 0), .int (iI v)] (cX cI cJ cZ cR q w d xi xa) (fun (r : Int32) (g : Nat → va_E) => ∃ (e : Int) (xi' : Nat → Int), (spPace (vX w xi xa) v e (vX w xi' xa) ∧ XOk w d xi' xa) ∧ r = iI e ∧ g = (cX cI cJ cZ cR q w d xi' xa)) := by
  refine Cti.of (cc := cX7_pace) (nL := 3) (own := RX7) (ret := (some .int)) (by decide) rfl rfl hq (Nat.le_of_ble_eq_true rfl) (fun p e s m args below meth c => ?_)
  obtain ⟨⟨hw, hd⟩, hRows, hRvs, hn2, ⟨hRd, hRd2⟩, hJ, ⟨hst, hTab⟩, hfa, hsg⟩ := id hO
  have hRw := hRvs w hw
  obtain ⟨hN, hP, hK, hM, hD, hB⟩ := id hRw
  have hnA : rN (aR (vX w xi xa)) = xi (10 + w) := rfl
  have hO0 := XOk_fa (f := 0) hO (by omega)
  refine z_iload_n (j := 1) dX7_pace_0 rfl rfl ?_
  refine z_if_lt (tgt := 9) dX7_pace_1 (by decide) (by omega) (fun c_1 => ?_) (fun c_1 => ?_)
  · refine z_bipush dX7_pace_9 (by decide) ?_
    exact z_iret dX7_pace_11 ⟨_, _, (by unfold spPace; rw [if_pos (by omega)]; exact ⟨⟨rfl, rfl⟩, hO⟩), rfl, rfl⟩
  · refine z_iload_n (j := 1) dX7_pace_4 rfl rfl ?_
    refine z_iconst dX7_pace_5 ?_
    refine z_icmp_le (tgt := 12) dX7_pace_6 (by decide) (by omega) (by decide) (fun c_6 => ?_) (fun c_6 => ?_)
    · refine z_aload_n (j := 0) dX7_pace_12 rfl rfl ?_
      refine z_getf (i := 0) (ci := 7) (k := 1) (v := .ref (q (10 + w))) dX7_pace_13 m_X7_pace_f20 in_X7_pace_X7 rfl (by decide) rfl (by omega) rfl rfl ?_
      refine z_callVi (i := 10 + w) (ci := 2) (As := []) (rest := []) (c_X2_isNone  hq hw hRw) dX7_pace_16 gX7_pace_X2_isNone rfl cd_X2_isNone ⟨Nat.le_of_ble_eq_true rfl, Nat.le_of_ble_eq_true rfl⟩ rfl rfl (by omega) (cX_rv hw) rfl rfl (Nat.le_of_ble_eq_true rfl) ⟨Nat.zero_le _, Nat.zero_le _⟩ (fun r_16 g_16 hp_16 => ?_)
      obtain ⟨⟨h_16, rfl⟩ | ⟨h_16, rfl⟩, rfl⟩ := hp_16
      · refine z_if_eq (tgt := 25) dX7_pace_19 (by decide) (by decide) (fun h => absurd h (by decide)) (fun _ => ?_)
        refine z_bipush dX7_pace_22 (by decide) ?_
        exact z_iret dX7_pace_24 ⟨_, _, (by unfold spPace; rw [if_neg (by omega), if_pos (by rw [hnA]; exact h_16)]; exact ⟨⟨rfl, rfl⟩, hO⟩), rfl, rfl⟩
      · refine z_if_eq (tgt := 25) dX7_pace_19 (by decide) (by decide) (fun _ => ?_) (fun h => absurd h (by decide))
        refine z_aload_n (j := 0) dX7_pace_25 rfl rfl ?_
        refine z_getf (i := 0) (ci := 7) (k := 1) (v := .ref (q (10 + w))) dX7_pace_26 m_X7_pace_f20 in_X7_pace_X7 rfl (by decide) rfl (by omega) rfl rfl ?_
        refine z_getfN (i := 10 + w) (ci := 2) (k := 5) (v := .int (iI (xi (12 + w)))) dX7_pace_29 nwf_X7_122 in_X7_pace_X2 rfl (by decide) rfl (by omega) (cX_rv hw) rfl ?_
        refine z_istore_n [(2, .int (iI (xi (12 + w)))), (0, .ref (q 0)), (1, .int (iI v))] dX7_pace_32 rfl (by decide) rfl ?_
        refine z_aload_n (j := 1) dX7_pace_33 rfl rfl ?_
        refine z_getf (i := 0) (ci := 7) (k := 1) (v := .ref (q (10 + w))) dX7_pace_34 m_X7_pace_f20 in_X7_pace_X7 rfl (by decide) rfl (by omega) rfl rfl ?_
        refine z_iload_n (j := 2) dX7_pace_37 rfl rfl ?_
        refine z_putfN (i := 10 + w) (ci := 2) (k := 5) (cX cI cJ cZ cR q w d (va_up xi (12 + w) v) xa) dX7_pace_38 nwf_X7_122 in_X7_pace_X2 rfl (by decide) rfl (by omega) (cX_rv hw) tyX2_ok nmX2 rfl rfl rfl (Nat.le_of_ble_eq_true rfl) (lx_pace hw) ?_
        refine z_iload_n (j := 0) dX7_pace_41 rfl rfl ?_
        exact z_iret dX7_pace_42 ⟨_, _, (by unfold spPace; rw [if_neg (by omega), if_neg (by rw [hnA]; exact h_16)]; exact ⟨⟨rfl, vX_pace hw⟩, XOk_pace hO (by omega)⟩), rfl, rfl⟩
    · refine z_bipush dX7_pace_9 (by decide) ?_
      exact z_iret dX7_pace_11 ⟨_, _, (by unfold spPace; rw [if_pos (by omega)]; exact ⟨⟨rfl, rfl⟩, hO⟩), rfl, rfl⟩
theorem m_X7_bridge_f20 : Cond.fieldLink RX7 20 "PoleBehind" "water" "LPoleBehind$River;" ∈ wsX7_bridge := List.mem_of_getElem? (i := 1) rfl
theorem in_X7_bridge_X7 : ∀ w ∈ wsX70, w ∈ wsX7_bridge := fun _ h => List.mem_cons_of_mem _ (List.mem_append_left _ (List.mem_append_left _ (List.mem_append_right _ h)))
theorem m_X7_bridge_f51 : Cond.fieldLink RX7 51 "PoleBehind" "sureTable" "LPoleBehind$SureTable;" ∈ wsX7_bridge := List.mem_of_getElem? (i := 2) rfl
theorem cd_X4_forget : yX4_forget.cls = RX4 ∧ yX4_forget.cls ≠ "java/lang/invoke/MethodHandle" ∧ yX4_forget.cls ≠ "java/lang/invoke/VarHandle" ∧ (parseMethodDescriptor yX4_forget.desc).map (fun d => d.parameters.length) = some 0 := ⟨rfl, by decide +kernel, by decide +kernel, by decide +kernel⟩
set_option maxHeartbeats 400000 in
set_option maxRecDepth 100000 in
theorem c_X7_bridge {l : Launch} {D : va_G} {cI cJ cZ cR : ClassId} {q : Nat → Nat} {w d : Nat} {xi : Nat → Int} {xa : Nat → Nat → Int} (hq : qOk 31 q) {z bt : Int} (hO : XOk w d xi xa) (hz : -2147483648 ≤ z ∧ z < 2147483648) (hbt : bt = 0 ∨ bt = 1) : Cti l D vwCl (tysC cI cJ cZ cR) 31 q yX7_bridge wsX7_bridge ({ frames := 2, cells := 0, slots := 0, locals := 43 } : Room) [.ref (q 0), .int (iI z), .int (iI bt)] (cX cI cJ cZ cR q w d xi xa) (fun (r : Int32) (g : Nat → va_E) => ∃ (e : Int) (xi' : Nat → Int) (xa' : Nat → Nat → Int), (spBridge (vX w xi xa) z bt e (vX w xi' xa') ∧ XOk w d xi' xa') ∧ r = iI e ∧ g = (cX cI cJ cZ cR q w d xi' xa')) := by
  refine Cti.of (cc := cX7_bridge) (nL := 3) (own := RX7) (ret := (some .int)) (by decide) rfl rfl hq (Nat.le_of_ble_eq_true rfl) (fun p e s m args below meth c => ?_)
  obtain ⟨⟨hw, hd⟩, hRows, hRvs, hn2, ⟨hRd, hRd2⟩, hJ, ⟨hst, hTab⟩, hfa, hsg⟩ := id hO
  have hRw := hRvs w hw
  obtain ⟨hN, hP, hK, hM, hD, hB⟩ := id hRw
  have hnA : rN (aR (vX w xi xa)) = xi (10 + w) := rfl
  have hO0 := XOk_fa (f := 0) hO (by omega)
  have hbz := hB z.toNat
  refine z_aload_n (j := 0) dX7_bridge_0 rfl rfl ?_
  refine z_getf (i := 0) (ci := 7) (k := 1) (v := .ref (q (10 + w))) dX7_bridge_1 m_X7_bridge_f20 in_X7_bridge_X7 rfl (by decide) rfl (by omega) rfl rfl ?_
  refine z_iload_n (j := 1) dX7_bridge_4 rfl rfl ?_
  refine z_callVi (i := 10 + w) (ci := 2) (As := [.int (iI z)]) (rest := []) (c_X2_has  hq hw hRw (by omega)) dX7_bridge_5 gX7_bridge_X2_has rfl cd_X2_has ⟨Nat.le_of_ble_eq_true rfl, Nat.le_of_ble_eq_true rfl⟩ rfl rfl (by omega) (cX_rv hw) rfl rfl (Nat.le_of_ble_eq_true rfl) ⟨Nat.zero_le _, Nat.zero_le _⟩ (fun r_5 g_5 hp_5 => ?_)
  obtain ⟨⟨h_5, rfl⟩ | ⟨h_5, rfl⟩, rfl⟩ := hp_5
  · refine z_if_ne (tgt := 13) dX7_bridge_8 (by decide) (by decide) (fun _ => ?_) (fun h => absurd h (by decide))
    refine z_aload_n (j := 0) dX7_bridge_13 rfl rfl ?_
    refine z_getf (i := 0) (ci := 7) (k := 1) (v := .ref (q (10 + w))) dX7_bridge_14 m_X7_bridge_f20 in_X7_bridge_X7 rfl (by decide) rfl (by omega) rfl rfl ?_
    refine z_iload_n (j := 1) dX7_bridge_17 rfl rfl ?_
    refine z_callVi (i := 10 + w) (ci := 2) (As := [.int (iI z)]) (rest := []) (c_X2_isBridged  hq hw hRw (by omega)) dX7_bridge_18 gX7_bridge_X2_isBridged rfl cd_X2_isBridged ⟨Nat.le_of_ble_eq_true rfl, Nat.le_of_ble_eq_true rfl⟩ rfl rfl (by omega) (cX_rv hw) rfl rfl (Nat.le_of_ble_eq_true rfl) ⟨Nat.zero_le _, Nat.zero_le _⟩ (fun r_18 g_18 hp_18 => ?_)
    obtain ⟨⟨h_18, rfl⟩ | ⟨h_18, rfl⟩, rfl⟩ := hp_18
    · refine z_iload_n (j := 2) dX7_bridge_21 rfl rfl ?_
      refine z_icmp_ne (tgt := 27) dX7_bridge_22 (by decide) (by decide) (by omega) (fun c_22 => ?_) (fun c_22 => ?_)
      · refine z_aload_n (j := 0) dX7_bridge_27 rfl rfl ?_
        refine z_getf (i := 0) (ci := 7) (k := 1) (v := .ref (q (10 + w))) dX7_bridge_28 m_X7_bridge_f20 in_X7_bridge_X7 rfl (by decide) rfl (by omega) rfl rfl ?_
        refine z_iload_n (j := 1) dX7_bridge_31 rfl rfl ?_
        refine z_iload_n (j := 2) dX7_bridge_32 rfl rfl ?_
        refine z_callVv (i := 10 + w) (ci := 2) (As := [.int (iI z), .int (iI bt)]) (rest := []) (c_X2_setBridged  hq hw hRw (by omega) (by omega)) dX7_bridge_33 gX7_bridge_X2_setBridged rfl cd_X2_setBridged ⟨Nat.le_of_ble_eq_true rfl, Nat.le_of_ble_eq_true rfl⟩ rfl rfl (by omega) (cX_rv hw) rfl rfl (Nat.le_of_ble_eq_true rfl) ⟨Nat.zero_le _, Nat.zero_le _⟩ (fun g_33 hp_33 => ?_)
        obtain ⟨xa_33, he_33, rfl⟩ := hp_33
        refine z_aload_n (j := 0) dX7_bridge_36 rfl rfl ?_
        refine z_getf (i := 0) (ci := 7) (k := 6) (v := .ref (q 27)) dX7_bridge_37 m_X7_bridge_f51 in_X7_bridge_X7 rfl (by decide) rfl (by omega) rfl rfl ?_
        refine z_callVv (i := 27) (ci := 4) (As := []) (rest := []) (c_X4_forget  hq ) dX7_bridge_40 gX7_bridge_X4_forget rfl cd_X4_forget ⟨Nat.le_of_ble_eq_true rfl, Nat.le_of_ble_eq_true rfl⟩ rfl rfl (by omega) rfl rfl rfl (Nat.le_of_ble_eq_true rfl) ⟨Nat.zero_le _, Nat.zero_le _⟩ (fun g_40 hp_40 => ?_)
        obtain ⟨xi_40, he_40, rfl⟩ := hp_40
        refine z_iconst dX7_bridge_43 ?_
        exact z_iret dX7_bridge_44 ⟨_, _, _, (by
      rw [if_pos h_5] at he_33
      unfold spBridge; rw [if_neg (show ¬ ¬ (0 ≤ z ∧ z < rN (aR (vX w xi xa))) from not_not_intro (by rw [hnA]; omega)), if_neg (by rw [show rB (aR (vX w xi xa)) z.toNat = xa (10 + w) z.toNat from nrm_in (by omega)]; omega), he_40, he_33]
      exact ⟨⟨rfl, vX_brid hw (by omega)⟩, XOk_brid hO hbt⟩), rfl, rfl⟩
      · refine z_iconst dX7_bridge_25 ?_
        exact z_iret dX7_bridge_26 ⟨_, _, _, (by unfold spBridge; rw [if_neg (show ¬ ¬ (0 ≤ z ∧ z < rN (aR (vX w xi xa))) from not_not_intro (by rw [hnA]; omega)), if_pos (by rw [show rB (aR (vX w xi xa)) z.toNat = xa (10 + w) z.toNat from nrm_in (by omega)]; omega)]; exact ⟨⟨rfl, rfl⟩, hO⟩), rfl, rfl⟩
    · refine z_iload_n (j := 2) dX7_bridge_21 rfl rfl ?_
      refine z_icmp_ne (tgt := 27) dX7_bridge_22 (by decide) (by decide) (by omega) (fun c_22 => ?_) (fun c_22 => ?_)
      · refine z_aload_n (j := 0) dX7_bridge_27 rfl rfl ?_
        refine z_getf (i := 0) (ci := 7) (k := 1) (v := .ref (q (10 + w))) dX7_bridge_28 m_X7_bridge_f20 in_X7_bridge_X7 rfl (by decide) rfl (by omega) rfl rfl ?_
        refine z_iload_n (j := 1) dX7_bridge_31 rfl rfl ?_
        refine z_iload_n (j := 2) dX7_bridge_32 rfl rfl ?_
        refine z_callVv (i := 10 + w) (ci := 2) (As := [.int (iI z), .int (iI bt)]) (rest := []) (c_X2_setBridged  hq hw hRw (by omega) (by omega)) dX7_bridge_33 gX7_bridge_X2_setBridged rfl cd_X2_setBridged ⟨Nat.le_of_ble_eq_true rfl, Nat.le_of_ble_eq_true rfl⟩ rfl rfl (by omega) (cX_rv hw) rfl rfl (Nat.le_of_ble_eq_true rfl) ⟨Nat.zero_le _, Nat.zero_le _⟩ (fun g_33 hp_33 => ?_)
        obtain ⟨xa_33, he_33, rfl⟩ := hp_33
        refine z_aload_n (j := 0) dX7_bridge_36 rfl rfl ?_
        refine z_getf (i := 0) (ci := 7) (k := 6) (v := .ref (q 27)) dX7_bridge_37 m_X7_bridge_f51 in_X7_bridge_X7 rfl (by decide) rfl (by omega) rfl rfl ?_
        refine z_callVv (i := 27) (ci := 4) (As := []) (rest := []) (c_X4_forget  hq ) dX7_bridge_40 gX7_bridge_X4_forget rfl cd_X4_forget ⟨Nat.le_of_ble_eq_true rfl, Nat.le_of_ble_eq_true rfl⟩ rfl rfl (by omega) rfl rfl rfl (Nat.le_of_ble_eq_true rfl) ⟨Nat.zero_le _, Nat.zero_le _⟩ (fun g_40 hp_40 => ?_)
        obtain ⟨xi_40, he_40, rfl⟩ := hp_40
        refine z_iconst dX7_bridge_43 ?_
        exact z_iret dX7_bridge_44 ⟨_, _, _, (by
      rw [if_pos h_5] at he_33
      unfold spBridge; rw [if_neg (show ¬ ¬ (0 ≤ z ∧ z < rN (aR (vX w xi xa))) from not_not_intro (by rw [hnA]; omega)), if_neg (by rw [show rB (aR (vX w xi xa)) z.toNat = xa (10 + w) z.toNat from nrm_in (by omega)]; omega), he_40, he_33]
      exact ⟨⟨rfl, vX_brid hw (by omega)⟩, XOk_brid hO hbt⟩), rfl, rfl⟩
      · refine z_iconst dX7_bridge_25 ?_
        exact z_iret dX7_bridge_26 ⟨_, _, _, (by unfold spBridge; rw [if_neg (show ¬ ¬ (0 ≤ z ∧ z < rN (aR (vX w xi xa))) from not_not_intro (by rw [hnA]; omega)), if_pos (by rw [show rB (aR (vX w xi xa)) z.toNat = xa (10 + w) z.toNat from nrm_in (by omega)]; omega)]; exact ⟨⟨rfl, rfl⟩, hO⟩), rfl, rfl⟩
  · refine z_if_ne (tgt := 13) dX7_bridge_8 (by decide) (by decide) (fun h => absurd h (by decide)) (fun _ => ?_)
    refine z_iconst dX7_bridge_11 ?_
    exact z_iret dX7_bridge_12 ⟨_, _, _, (by unfold spBridge; rw [if_pos (show ¬ (0 ≤ z ∧ z < rN (aR (vX w xi xa))) by rw [hnA]; omega)]; exact ⟨⟨rfl, rfl⟩, hO⟩), rfl, rfl⟩
theorem m_X7_tell_f20 : Cond.fieldLink RX7 20 "PoleBehind" "water" "LPoleBehind$River;" ∈ wsX7_tell := List.mem_of_getElem? (i := 1) rfl
theorem in_X7_tell_X7 : ∀ w ∈ wsX70, w ∈ wsX7_tell := fun _ h => List.mem_cons_of_mem _ (List.mem_append_left _ (List.mem_append_right _ h))
theorem cd_X7_clayTelling : yX7_clayTelling.cls = RX7 ∧ yX7_clayTelling.cls ≠ "java/lang/invoke/MethodHandle" ∧ yX7_clayTelling.cls ≠ "java/lang/invoke/VarHandle" ∧ (parseMethodDescriptor yX7_clayTelling.desc).map (fun d => d.parameters.length) = some 1 := ⟨rfl, by decide +kernel, by decide +kernel, by decide +kernel⟩
set_option maxHeartbeats 400000 in
set_option maxRecDepth 100000 in
theorem c_X7_tell {l : Launch} {D : va_G} {cI cJ cZ cR : ClassId} {q : Nat → Nat} {w d : Nat} {xi : Nat → Int} {xa : Nat → Nat → Int} (hq : qOk 31 q) {z : Int} (hO : XOk w d xi xa) (hz : -2147483648 ≤ z ∧ z < 2147483648) : Cti l D vwCl (tysC cI cJ cZ cR) 31 q yX7_tell wsX7_tell ({ frames := 5, cells := 0, slots := 0, locals := 106 } : Room) [.ref (q 0), .int (iI z)] (cX cI cJ cZ cR q w d xi xa) (fun (r : Int32) (g : Nat → va_E) => ∃ (e : Int) (xi' : Nat → Int), (spTell (vX w xi xa) z e (vX w xi' xa) ∧ XOk w d xi' xa) ∧ r = iI e ∧ g = (cX cI cJ cZ cR q w d xi' xa)) := by
  refine Cti.of (cc := cX7_tell) (nL := 2) (own := RX7) (ret := (some .int)) (by decide) rfl rfl hq (Nat.le_of_ble_eq_true rfl) (fun p e s m args below meth c => ?_)
  obtain ⟨⟨hw, hd⟩, hRows, hRvs, hn2, ⟨hRd, hRd2⟩, hJ, ⟨hst, hTab⟩, hfa, hsg⟩ := id hO
  have hRw := hRvs w hw
  obtain ⟨hN, hP, hK, hM, hD, hB⟩ := id hRw
  have hnA : rN (aR (vX w xi xa)) = xi (10 + w) := rfl
  have hO0 := XOk_fa (f := 0) hO (by omega)
  have hkz := hK z.toNat
  refine z_aload_n (j := 0) dX7_tell_0 rfl rfl ?_
  refine z_getf (i := 0) (ci := 7) (k := 1) (v := .ref (q (10 + w))) dX7_tell_1 m_X7_tell_f20 in_X7_tell_X7 rfl (by decide) rfl (by omega) rfl rfl ?_
  refine z_iload_n (j := 1) dX7_tell_4 rfl rfl ?_
  refine z_callVi (i := 10 + w) (ci := 2) (As := [.int (iI z)]) (rest := []) (c_X2_has  hq hw hRw (by omega)) dX7_tell_5 gX7_tell_X2_has rfl cd_X2_has ⟨Nat.le_of_ble_eq_true rfl, Nat.le_of_ble_eq_true rfl⟩ rfl rfl (by omega) (cX_rv hw) rfl rfl (Nat.le_of_ble_eq_true rfl) ⟨Nat.zero_le _, Nat.zero_le _⟩ (fun r_5 g_5 hp_5 => ?_)
  obtain ⟨⟨h_5, rfl⟩ | ⟨h_5, rfl⟩, rfl⟩ := hp_5
  · refine z_if_ne (tgt := 13) dX7_tell_8 (by decide) (by decide) (fun _ => ?_) (fun h => absurd h (by decide))
    refine z_aload_n (j := 0) dX7_tell_13 rfl rfl ?_
    refine z_getf (i := 0) (ci := 7) (k := 1) (v := .ref (q (10 + w))) dX7_tell_14 m_X7_tell_f20 in_X7_tell_X7 rfl (by decide) rfl (by omega) rfl rfl ?_
    refine z_iload_n (j := 1) dX7_tell_17 rfl rfl ?_
    refine z_callVi (i := 10 + w) (ci := 2) (As := [.int (iI z)]) (rest := []) (c_X2_kindOf  hq hw hRw (by omega)) dX7_tell_18 gX7_tell_X2_kindOf rfl cd_X2_kindOf ⟨Nat.le_of_ble_eq_true rfl, Nat.le_of_ble_eq_true rfl⟩ rfl rfl (by omega) (cX_rv hw) rfl rfl (Nat.le_of_ble_eq_true rfl) ⟨Nat.zero_le _, Nat.zero_le _⟩ (fun r_18 g_18 hp_18 => ?_)
    obtain ⟨⟨e_18, he_18, rfl⟩, rfl⟩ := hp_18
    by_cases k_21_0 : e_18 = 1
    · refine z_lsw (off := 33) (tgt := 54) dX7_tell_21 (by omega) (by decide) (by rw [k_21_0]; decide) (by decide) ?_
      refine z_aload_n (j := 0) dX7_tell_54 rfl rfl ?_
      refine z_iload_n (j := 1) dX7_tell_55 rfl rfl ?_
      refine z_callVi (i := 0) (ci := 7) (As := [.int (iI z)]) (rest := []) (c_X7_muddyTelling  hq hw hRw (by omega)) dX7_tell_56 gX7_tell_X7_muddyTelling rfl cd_X7_muddyTelling ⟨Nat.le_of_ble_eq_true rfl, Nat.le_of_ble_eq_true rfl⟩ rfl rfl (by omega) rfl rfl rfl (Nat.le_of_ble_eq_true rfl) ⟨Nat.zero_le _, Nat.zero_le _⟩ (fun r_56 g_56 hp_56 => ?_)
      obtain ⟨e_56, xi_56, he_56, rfl, rfl⟩ := hp_56
      exact z_iret dX7_tell_59 ⟨_, _, (by
      rw [if_pos h_5] at he_18
      unfold spTell; rw [if_neg (show ¬ ¬ (0 ≤ z ∧ z < rN (aR (vX w xi xa))) from not_not_intro (by rw [hnA]; omega)), show rK (aR (vX w xi xa)) z.toNat = xa (4 + w) z.toNat from nrm_in (by omega), if_neg (by omega), if_pos (by omega), he_56.2, show rM (aR (vX w xi xa)) z.toNat = xa (6 + w) z.toNat from nrm_in (by omega)]
      exact ⟨⟨he_56.1, vX_tr hw⟩, XOk_tr hO⟩), rfl, rfl⟩
    ·
      by_cases k_21_1 : e_18 = 2
      · refine z_lsw (off := 27) (tgt := 48) dX7_tell_21 (by omega) (by decide) (by rw [k_21_1]; decide) (by decide) ?_
        refine z_aload_n (j := 0) dX7_tell_48 rfl rfl ?_
        refine z_iload_n (j := 1) dX7_tell_49 rfl rfl ?_
        refine z_callVi (i := 0) (ci := 7) (As := [.int (iI z)]) (rest := []) (c_X7_clayTelling  hq hw hRw (by omega)) dX7_tell_50 gX7_tell_X7_clayTelling rfl cd_X7_clayTelling ⟨Nat.le_of_ble_eq_true rfl, Nat.le_of_ble_eq_true rfl⟩ rfl rfl (by omega) rfl rfl rfl (Nat.le_of_ble_eq_true rfl) ⟨Nat.zero_le _, Nat.zero_le _⟩ (fun r_50 g_50 hp_50 => ?_)
        obtain ⟨e_50, xi_50, he_50, rfl, rfl⟩ := hp_50
        exact z_iret dX7_tell_53 ⟨_, _, (by
      rw [if_pos h_5] at he_18
      unfold spTell; rw [if_neg (show ¬ ¬ (0 ≤ z ∧ z < rN (aR (vX w xi xa))) from not_not_intro (by rw [hnA]; omega)), show rK (aR (vX w xi xa)) z.toNat = xa (4 + w) z.toNat from nrm_in (by omega), if_pos (by omega), he_50.2, show rM (aR (vX w xi xa)) z.toNat = xa (6 + w) z.toNat from nrm_in (by omega)]
      exact ⟨⟨he_50.1, vX_tr hw⟩, XOk_tr hO⟩), rfl, rfl⟩
      ·
        refine z_lsw (off := 39) (tgt := 60) dX7_tell_21 (by omega) (by decide) (by first | (show Op.lookupswitch.offset [(1, 33), (2, 27)] _ _ = _; rw [Op.lookupswitch.offset_cons, if_neg (fun h => k_21_0 h.symm), Op.lookupswitch.offset_cons, if_neg (fun h => k_21_1 h.symm)]; rfl) | (show Op.lookupswitch.offset [(1, 33), (2, 27)] _ _ = _; rw [Op.lookupswitch.offset_cons, if_neg k_21_0, Op.lookupswitch.offset_cons, if_neg k_21_1]; rfl)) (by decide) ?_
        refine z_aload_n (j := 0) dX7_tell_60 rfl rfl ?_
        refine z_iload_n (j := 1) dX7_tell_61 rfl rfl ?_
        refine z_callVi (i := 0) (ci := 7) (As := [.int (iI z)]) (rest := []) (c_X7_gravelTelling  hq hw hRw (by omega)) dX7_tell_62 gX7_tell_X7_gravelTelling rfl cd_X7_gravelTelling ⟨Nat.le_of_ble_eq_true rfl, Nat.le_of_ble_eq_true rfl⟩ rfl rfl (by omega) rfl rfl rfl (Nat.le_of_ble_eq_true rfl) ⟨Nat.zero_le _, Nat.zero_le _⟩ (fun r_62 g_62 hp_62 => ?_)
        obtain ⟨e_62, xi_62, he_62, rfl, rfl⟩ := hp_62
        exact z_iret dX7_tell_65 ⟨_, _, (by
      rw [if_pos h_5] at he_18
      unfold spTell; rw [if_neg (show ¬ ¬ (0 ≤ z ∧ z < rN (aR (vX w xi xa))) from not_not_intro (by rw [hnA]; omega)), show rK (aR (vX w xi xa)) z.toNat = xa (4 + w) z.toNat from nrm_in (by omega), if_neg (by omega), if_neg (by omega), he_62.2, show rM (aR (vX w xi xa)) z.toNat = xa (6 + w) z.toNat from nrm_in (by omega)]
      exact ⟨⟨he_62.1, vX_tr hw⟩, XOk_tr hO⟩), rfl, rfl⟩
  · refine z_if_ne (tgt := 13) dX7_tell_8 (by decide) (by decide) (fun h => absurd h (by decide)) (fun _ => ?_)
    refine z_iconst dX7_tell_11 ?_
    exact z_iret dX7_tell_12 ⟨_, _, (by unfold spTell; rw [if_pos (show ¬ (0 ≤ z ∧ z < rN (aR (vX w xi xa))) by rw [hnA]; omega)]; exact ⟨⟨rfl, rfl⟩, hO⟩), rfl, rfl⟩
theorem m_X7_sound_f20 : Cond.fieldLink RX7 20 "PoleBehind" "water" "LPoleBehind$River;" ∈ wsX7_sound := List.mem_of_getElem? (i := 1) rfl
theorem in_X7_sound_X7 : ∀ w ∈ wsX70, w ∈ wsX7_sound := fun _ h => List.mem_cons_of_mem _ (List.mem_append_left _ (List.mem_append_right _ h))
set_option maxHeartbeats 400000 in
set_option maxRecDepth 100000 in
theorem c_X7_sound {l : Launch} {D : va_G} {cI cJ cZ cR : ClassId} {q : Nat → Nat} {w d : Nat} {xi : Nat → Int} {xa : Nat → Nat → Int} (hq : qOk 31 q) {z : Int} (hO : XOk w d xi xa) (hz : -2147483648 ≤ z ∧ z < 2147483648) : Cti l D vwCl (tysC cI cJ cZ cR) 31 q yX7_sound wsX7_sound ({ frames := 2, cells := 0, slots := 0, locals := 42 } : Room) [.ref (q 0), .int (iI z)] (cX cI cJ cZ cR q w d xi xa) (fun (r : Int32) (g : Nat → va_E) => ∃ (e : Int) (xi' : Nat → Int), (spSound (vX w xi xa) z e (vX w xi' xa) ∧ XOk w d xi' xa) ∧ r = iI e ∧ g = (cX cI cJ cZ cR q w d xi' xa)) := by
  refine Cti.of (cc := cX7_sound) (nL := 2) (own := RX7) (ret := (some .int)) (by decide) rfl rfl hq (Nat.le_of_ble_eq_true rfl) (fun p e s m args below meth c => ?_)
  obtain ⟨⟨hw, hd⟩, hRows, hRvs, hn2, ⟨hRd, hRd2⟩, hJ, ⟨hst, hTab⟩, hfa, hsg⟩ := id hO
  have hRw := hRvs w hw
  obtain ⟨hN, hP, hK, hM, hD, hB⟩ := id hRw
  have hnA : rN (aR (vX w xi xa)) = xi (10 + w) := rfl
  have hO0 := XOk_fa (f := 0) hO (by omega)
  have hkz := hK z.toNat
  refine z_aload_n (j := 0) dX7_sound_0 rfl rfl ?_
  refine z_getf (i := 0) (ci := 7) (k := 1) (v := .ref (q (10 + w))) dX7_sound_1 m_X7_sound_f20 in_X7_sound_X7 rfl (by decide) rfl (by omega) rfl rfl ?_
  refine z_iload_n (j := 1) dX7_sound_4 rfl rfl ?_
  refine z_callVi (i := 10 + w) (ci := 2) (As := [.int (iI z)]) (rest := []) (c_X2_has  hq hw hRw (by omega)) dX7_sound_5 gX7_sound_X2_has rfl cd_X2_has ⟨Nat.le_of_ble_eq_true rfl, Nat.le_of_ble_eq_true rfl⟩ rfl rfl (by omega) (cX_rv hw) rfl rfl (Nat.le_of_ble_eq_true rfl) ⟨Nat.zero_le _, Nat.zero_le _⟩ (fun r_5 g_5 hp_5 => ?_)
  obtain ⟨⟨h_5, rfl⟩ | ⟨h_5, rfl⟩, rfl⟩ := hp_5
  · refine z_if_ne (tgt := 13) dX7_sound_8 (by decide) (by decide) (fun _ => ?_) (fun h => absurd h (by decide))
    refine z_aload_n (j := 0) dX7_sound_13 rfl rfl ?_
    refine z_getf (i := 0) (ci := 7) (k := 1) (v := .ref (q (10 + w))) dX7_sound_14 m_X7_sound_f20 in_X7_sound_X7 rfl (by decide) rfl (by omega) rfl rfl ?_
    refine z_iload_n (j := 1) dX7_sound_17 rfl rfl ?_
    refine z_callVi (i := 10 + w) (ci := 2) (As := [.int (iI z)]) (rest := []) (c_X2_kindOf  hq hw hRw (by omega)) dX7_sound_18 gX7_sound_X2_kindOf rfl cd_X2_kindOf ⟨Nat.le_of_ble_eq_true rfl, Nat.le_of_ble_eq_true rfl⟩ rfl rfl (by omega) (cX_rv hw) rfl rfl (Nat.le_of_ble_eq_true rfl) ⟨Nat.zero_le _, Nat.zero_le _⟩ (fun r_18 g_18 hp_18 => ?_)
    obtain ⟨⟨e_18, he_18, rfl⟩, rfl⟩ := hp_18
    refine z_iconst dX7_sound_21 ?_
    refine z_icmp_ne (tgt := 33) dX7_sound_22 (by decide) (by omega) (by decide) (fun c_22 => ?_) (fun c_22 => ?_)
    · refine z_aload_n (j := 0) dX7_sound_33 rfl rfl ?_
      refine z_iconst dX7_sound_34 ?_
      refine z_callVv (i := 0) (ci := 7) (As := [.int (iI 4)]) (rest := []) (c_X7_leaveTrace  hq ) dX7_sound_35 gX7_sound_X7_leaveTrace rfl cd_X7_leaveTrace ⟨Nat.le_of_ble_eq_true rfl, Nat.le_of_ble_eq_true rfl⟩ rfl rfl (by omega) rfl rfl rfl (Nat.le_of_ble_eq_true rfl) ⟨Nat.zero_le _, Nat.zero_le _⟩ (fun g_35 hp_35 => ?_)
      obtain ⟨xi_35, he_35, rfl⟩ := hp_35
      refine z_iload_n (j := 1) dX7_sound_38 rfl rfl ?_
      exact z_iret dX7_sound_39 ⟨_, _, (by
      rw [if_pos h_5] at he_18
      unfold spSound; rw [if_neg (show ¬ ¬ (0 ≤ z ∧ z < rN (aR (vX w xi xa))) from not_not_intro (by rw [hnA]; omega)), show rK (aR (vX w xi xa)) z.toNat = xa (4 + w) z.toNat from nrm_in (by omega), if_neg (by omega), he_35]
      exact ⟨⟨rfl, vX_tr hw⟩, XOk_tr hO⟩), rfl, rfl⟩
    · refine z_aload_n (j := 0) dX7_sound_25 rfl rfl ?_
      refine z_iconst dX7_sound_26 ?_
      refine z_callVv (i := 0) (ci := 7) (As := [.int (iI 5)]) (rest := []) (c_X7_leaveTrace  hq ) dX7_sound_27 gX7_sound_X7_leaveTrace rfl cd_X7_leaveTrace ⟨Nat.le_of_ble_eq_true rfl, Nat.le_of_ble_eq_true rfl⟩ rfl rfl (by omega) rfl rfl rfl (Nat.le_of_ble_eq_true rfl) ⟨Nat.zero_le _, Nat.zero_le _⟩ (fun g_27 hp_27 => ?_)
      obtain ⟨xi_27, he_27, rfl⟩ := hp_27
      refine z_bipush dX7_sound_30 (by decide) ?_
      exact z_iret dX7_sound_32 ⟨_, _, (by
      rw [if_pos h_5] at he_18
      unfold spSound; rw [if_neg (show ¬ ¬ (0 ≤ z ∧ z < rN (aR (vX w xi xa))) from not_not_intro (by rw [hnA]; omega)), show rK (aR (vX w xi xa)) z.toNat = xa (4 + w) z.toNat from nrm_in (by omega), if_pos (by omega), he_27]
      exact ⟨⟨rfl, vX_tr hw⟩, XOk_tr hO⟩), rfl, rfl⟩
  · refine z_if_ne (tgt := 13) dX7_sound_8 (by decide) (by decide) (fun h => absurd h (by decide)) (fun _ => ?_)
    refine z_iconst dX7_sound_11 ?_
    exact z_iret dX7_sound_12 ⟨_, _, (by unfold spSound; rw [if_pos (show ¬ (0 ≤ z ∧ z < rN (aR (vX w xi xa))) by rw [hnA]; omega)]; exact ⟨⟨rfl, rfl⟩, hO⟩), rfl, rfl⟩
theorem m_X7_as_f63 : Cond.fieldLink RX7 63 "PoleBehind" "lastFault" "I" ∈ wsX7_as := List.mem_of_getElem? (i := 1) rfl
theorem in_X7_as_X7 : ∀ w ∈ wsX70, w ∈ wsX7_as := fun _ h => List.mem_cons_of_mem _ (List.mem_append_left _ (List.mem_append_right _ h))
theorem m_X7_as_f20 : Cond.fieldLink RX7 20 "PoleBehind" "water" "LPoleBehind$River;" ∈ wsX7_as := List.mem_of_getElem? (i := 2) rfl
theorem cd_X7_failed : yX7_failed.cls = RX7 ∧ yX7_failed.cls ≠ "java/lang/invoke/MethodHandle" ∧ yX7_failed.cls ≠ "java/lang/invoke/VarHandle" ∧ (parseMethodDescriptor yX7_failed.desc).map (fun d => d.parameters.length) = some 1 := ⟨rfl, by decide +kernel, by decide +kernel, by decide +kernel⟩
set_option maxHeartbeats 400000 in
set_option maxRecDepth 100000 in
theorem c_X7_as {l : Launch} {D : va_G} {cI cJ cZ cR : ClassId} {q : Nat → Nat} {w d : Nat} {xi : Nat → Int} {xa : Nat → Nat → Int} (hq : qOk 31 q) {z kk : Int} (hO : XOk w d xi xa) (hz : -2147483648 ≤ z ∧ z < 2147483648) (hk : -2147483648 ≤ kk ∧ kk < 2147483648) : Cti l D vwCl (tysC cI cJ cZ cR) 31 q yX7_as wsX7_as ({ frames := 2, cells := 0, slots := 0, locals := 42 } : Room) [.ref (q 0), .int (iI z), .int (iI kk)] (cX cI cJ cZ cR q w d xi xa) (fun (r : Int32) (g : Nat → va_E) => ∃ (e : Int) (xi' : Nat → Int), (spAs (vX w xi xa) z kk e (vX w xi' xa) ∧ XOk w d xi' xa) ∧ r = iI e ∧ g = (cX cI cJ cZ cR q w d xi' xa)) := by
  refine Cti.of (cc := cX7_as) (nL := 3) (own := RX7) (ret := (some .int)) (by decide) rfl rfl hq (Nat.le_of_ble_eq_true rfl) (fun p e s m args below meth c => ?_)
  obtain ⟨⟨hw, hd⟩, hRows, hRvs, hn2, ⟨hRd, hRd2⟩, hJ, ⟨hst, hTab⟩, hfa, hsg⟩ := id hO
  have hRw := hRvs w hw
  obtain ⟨hN, hP, hK, hM, hD, hB⟩ := id hRw
  have hnA : rN (aR (vX w xi xa)) = xi (10 + w) := rfl
  have hO0 := XOk_fa (f := 0) hO (by omega)
  have hkz := hK z.toNat
  have hRw0 := hO0.2.2.1 w hw
  have hu : ∀ k, k ≠ 1 → va_up xi 1 0 k = xi k := fun k h => up_n h
  refine z_aload_n (j := 0) dX7_as_0 rfl rfl ?_
  refine z_iconst dX7_as_1 ?_
  refine z_putf (i := 0) (ci := 7) (k := 9) (cX cI cJ cZ cR q w d (va_up xi 1 0) xa) dX7_as_2 m_X7_as_f63 in_X7_as_X7 rfl (by decide) rfl (by omega) rfl tyX7_ok nmX7 rfl rfl rfl (Nat.le_of_ble_eq_true rfl) lx_fault ?_
  refine z_aload_n (j := 0) dX7_as_5 rfl rfl ?_
  refine z_getf (i := 0) (ci := 7) (k := 1) (v := .ref (q (10 + w))) dX7_as_6 m_X7_as_f20 in_X7_as_X7 rfl (by decide) rfl (by omega) rfl rfl ?_
  refine z_iload_n (j := 1) dX7_as_9 rfl rfl ?_
  refine z_callVi (i := 10 + w) (ci := 2) (As := [.int (iI z)]) (rest := []) (c_X2_has  hq hw hRw0 (by omega)) dX7_as_10 gX7_as_X2_has rfl cd_X2_has ⟨Nat.le_of_ble_eq_true rfl, Nat.le_of_ble_eq_true rfl⟩ rfl rfl (by omega) (cX_rv hw) rfl rfl (Nat.le_of_ble_eq_true rfl) ⟨Nat.zero_le _, Nat.zero_le _⟩ (fun r_10 g_10 hp_10 => ?_)
  obtain ⟨⟨h_10, rfl⟩ | ⟨h_10, rfl⟩, rfl⟩ := hp_10
  · refine z_if_ne (tgt := 18) dX7_as_13 (by decide) (by decide) (fun _ => ?_) (fun h => absurd h (by decide))
    refine z_iload_n (j := 2) dX7_as_18 rfl rfl ?_
    refine z_if_lt (tgt := 27) dX7_as_19 (by decide) (by omega) (fun c_19 => ?_) (fun c_19 => ?_)
    · refine z_bipush dX7_as_27 (by decide) ?_
      exact z_iret dX7_as_29 ⟨_, _, (by rw [hu _ (by omega)] at h_10; unfold spAs; rw [if_neg (show ¬ ¬ (0 ≤ z ∧ z < rN (aR (vX w xi xa))) from not_not_intro (by rw [hnA]; omega)), if_pos (by omega)]; exact ⟨⟨rfl, vX_fa hw⟩, hO0⟩), rfl, rfl⟩
    · refine z_iload_n (j := 2) dX7_as_22 rfl rfl ?_
      refine z_iconst dX7_as_23 ?_
      refine z_icmp_le (tgt := 30) dX7_as_24 (by decide) (by omega) (by decide) (fun c_24 => ?_) (fun c_24 => ?_)
      · refine z_aload_n (j := 0) dX7_as_30 rfl rfl ?_
        refine z_getf (i := 0) (ci := 7) (k := 1) (v := .ref (q (10 + w))) dX7_as_31 m_X7_as_f20 in_X7_as_X7 rfl (by decide) rfl (by omega) rfl rfl ?_
        refine z_iload_n (j := 1) dX7_as_34 rfl rfl ?_
        refine z_callVi (i := 10 + w) (ci := 2) (As := [.int (iI z)]) (rest := []) (c_X2_kindOf  hq hw hRw0 (by omega)) dX7_as_35 gX7_as_X2_kindOf rfl cd_X2_kindOf ⟨Nat.le_of_ble_eq_true rfl, Nat.le_of_ble_eq_true rfl⟩ rfl rfl (by omega) (cX_rv hw) rfl rfl (Nat.le_of_ble_eq_true rfl) ⟨Nat.zero_le _, Nat.zero_le _⟩ (fun r_35 g_35 hp_35 => ?_)
        obtain ⟨⟨e_35, he_35, rfl⟩, rfl⟩ := hp_35
        refine z_iload_n (j := 2) dX7_as_38 rfl rfl ?_
        refine z_icmp_lt (tgt := 46) dX7_as_39 (by decide) (by omega) (by omega) (fun c_39 => ?_) (fun c_39 => ?_)
        · refine z_aload_n (j := 0) dX7_as_46 rfl rfl ?_
          refine z_iconst dX7_as_47 ?_
          refine z_callVi (i := 0) (ci := 7) (As := [.int (iI 2)]) (rest := []) (c_X7_failed  hq (by omega)) dX7_as_48 gX7_as_X7_failed rfl cd_X7_failed ⟨Nat.le_of_ble_eq_true rfl, Nat.le_of_ble_eq_true rfl⟩ rfl rfl (by omega) rfl rfl rfl (Nat.le_of_ble_eq_true rfl) ⟨Nat.zero_le _, Nat.zero_le _⟩ (fun r_48 g_48 hp_48 => ?_)
          obtain ⟨e_48, xi_48, he_48, rfl, rfl⟩ := hp_48
          exact z_iret dX7_as_51 ⟨_, _, (by
      rw [if_pos h_10] at he_35
      rw [hu _ (by omega)] at h_10
      unfold spAs; rw [if_neg (show ¬ ¬ (0 ≤ z ∧ z < rN (aR (vX w xi xa))) from not_not_intro (by rw [hnA]; omega)), if_neg (by omega), show rK (aR (vX w xi xa)) z.toNat = xa (4 + w) z.toNat from nrm_in (by omega)]
      first
        | (rw [if_pos (by omega)]; exact ⟨⟨rfl, vX_fa hw⟩, hO0⟩)
        | (rw [if_neg (by omega), he_48.2, bx_uu]; exact ⟨⟨he_48.1, vX_fa hw⟩, XOk_fa hO (by omega)⟩)), rfl, rfl⟩
        · refine z_iconst dX7_as_42 ?_
          refine z_goto (tgt := 51) dX7_as_43 (by decide) ?_
          exact z_iret dX7_as_51 ⟨_, _, (by
      rw [if_pos h_10] at he_35
      rw [hu _ (by omega)] at h_10
      unfold spAs; rw [if_neg (show ¬ ¬ (0 ≤ z ∧ z < rN (aR (vX w xi xa))) from not_not_intro (by rw [hnA]; omega)), if_neg (by omega), show rK (aR (vX w xi xa)) z.toNat = xa (4 + w) z.toNat from nrm_in (by omega)]
      first
        | (rw [if_pos (by omega)]; exact ⟨⟨rfl, vX_fa hw⟩, hO0⟩)
        | (rw [if_neg (by omega), he_48.2, bx_uu]; exact ⟨⟨he_48.1, vX_fa hw⟩, XOk_fa hO (by omega)⟩)), rfl, rfl⟩
      · refine z_bipush dX7_as_27 (by decide) ?_
        exact z_iret dX7_as_29 ⟨_, _, (by rw [hu _ (by omega)] at h_10; unfold spAs; rw [if_neg (show ¬ ¬ (0 ≤ z ∧ z < rN (aR (vX w xi xa))) from not_not_intro (by rw [hnA]; omega)), if_pos (by omega)]; exact ⟨⟨rfl, vX_fa hw⟩, hO0⟩), rfl, rfl⟩
  · refine z_if_ne (tgt := 18) dX7_as_13 (by decide) (by decide) (fun h => absurd h (by decide)) (fun _ => ?_)
    refine z_iconst dX7_as_16 ?_
    exact z_iret dX7_as_17 ⟨_, _, (by rw [hu _ (by omega)] at h_10; unfold spAs; rw [if_pos (show ¬ (0 ≤ z ∧ z < rN (aR (vX w xi xa))) by rw [hnA]; omega)]; exact ⟨⟨rfl, vX_fa hw⟩, hO0⟩), rfl, rfl⟩
