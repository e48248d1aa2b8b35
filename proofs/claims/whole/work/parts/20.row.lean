theorem m_X3_isNothing_f15 : Cond.fieldLink RX3 15 "PoleBehind$Row" "lane" "I" ∈ wsX3_isNothing := List.mem_of_getElem? (i := 1) rfl
theorem in_X3_isNothing_X3 : ∀ w ∈ wsX30, w ∈ wsX3_isNothing := fun _ h => List.mem_cons_of_mem _ (List.mem_append_right _ h)
set_option maxHeartbeats 4000000 in
set_option maxRecDepth 100000 in
theorem c_X3_isNothing {l : Launch} {D : va_G} {cI cJ cZ cR : ClassId} {q : Nat → Nat} {w d : Nat} {xi : Nat → Int} {xa : Nat → Nat → Int} (hq : qOk 31 q) {j : Nat} (hj : j < 4) (hR : RowOk xi xa j) : Cti l D vwCl (tysC cI cJ cZ cR) 31 q yX3_isNothing wsX3_isNothing ({ frames := 0, cells := 0, slots := 0, locals := 0 } : Room) [.ref (q (2 + j))] (cX cI cJ cZ cR q w d xi xa) (fun (r : Int32) (g : Nat → va_E) => (((xi (2 + j) = -1) ∧ r = iI 1) ∨ (¬ (xi (2 + j) = -1) ∧ r = iI 0)) ∧ g = (cX cI cJ cZ cR q w d xi xa)) := by
  refine Cti.of (cc := cX3_isNothing) (nL := 1) (own := RX3) (ret := (some .boolean)) (by decide) rfl rfl hq (Nat.le_of_ble_eq_true rfl) (fun p e s m args below meth c => ?_)
  obtain ⟨hL, hN, hE⟩ := id hR
  refine z_aload_n (j := 0) dX3_isNothing_0 rfl rfl ?_
  refine z_getf (i := 2 + j) (ci := 3) (k := 1) (v := .int (iI (xi (2 + j)))) dX3_isNothing_1 m_X3_isNothing_f15 in_X3_isNothing_X3 rfl (by decide) rfl (by omega) (cX_row hj) rfl ?_
  refine z_iconst dX3_isNothing_4 ?_
  refine z_icmp_ne (tgt := 12) dX3_isNothing_5 (by decide) (by omega) (by decide) (fun c_5 => ?_) (fun c_5 => ?_)
  · refine z_iconst dX3_isNothing_12 ?_
    exact z_zret dX3_isNothing_13 (Or.inl rfl) ⟨Or.inr ⟨(by omega), rfl⟩, rfl⟩
  · refine z_iconst dX3_isNothing_8 ?_
    refine z_goto (tgt := 13) dX3_isNothing_9 (by decide) ?_
    exact z_zret dX3_isNothing_13 (Or.inr rfl) ⟨Or.inl ⟨(by omega), rfl⟩, rfl⟩
theorem m_X3_has_f34 : Cond.fieldLink RX3 34 "PoleBehind$Row" "length" "I" ∈ wsX3_has := List.mem_of_getElem? (i := 1) rfl
theorem in_X3_has_X3 : ∀ w ∈ wsX30, w ∈ wsX3_has := fun _ h => List.mem_cons_of_mem _ (List.mem_append_right _ h)
set_option maxHeartbeats 4000000 in
set_option maxRecDepth 100000 in
theorem c_X3_has {l : Launch} {D : va_G} {cI cJ cZ cR : ClassId} {q : Nat → Nat} {w d : Nat} {xi : Nat → Int} {xa : Nat → Nat → Int} (hq : qOk 31 q) {j : Nat} {i : Int} (hj : j < 4) (hR : RowOk xi xa j) (hi : -2147483648 ≤ i ∧ i < 2147483648) : Cti l D vwCl (tysC cI cJ cZ cR) 31 q yX3_has wsX3_has ({ frames := 0, cells := 0, slots := 0, locals := 0 } : Room) [.ref (q (2 + j)), .int (iI i)] (cX cI cJ cZ cR q w d xi xa) (fun (r : Int32) (g : Nat → va_E) => (((0 ≤ i ∧ i < xi (6 + j)) ∧ r = iI 1) ∨ (¬ (0 ≤ i ∧ i < xi (6 + j)) ∧ r = iI 0)) ∧ g = (cX cI cJ cZ cR q w d xi xa)) := by
  refine Cti.of (cc := cX3_has) (nL := 2) (own := RX3) (ret := (some .boolean)) (by decide) rfl rfl hq (Nat.le_of_ble_eq_true rfl) (fun p e s m args below meth c => ?_)
  obtain ⟨hL, hN, hE⟩ := id hR
  refine z_iload_n (j := 1) dX3_has_0 rfl rfl ?_
  refine z_if_lt (tgt := 16) dX3_has_1 (by decide) (by omega) (fun c_1 => ?_) (fun c_1 => ?_)
  · refine z_iconst dX3_has_16 ?_
    exact z_zret dX3_has_17 (Or.inl rfl) ⟨Or.inr ⟨(by omega), rfl⟩, rfl⟩
  · refine z_iload_n (j := 1) dX3_has_4 rfl rfl ?_
    refine z_aload_n (j := 0) dX3_has_5 rfl rfl ?_
    refine z_getf (i := 2 + j) (ci := 3) (k := 2) (v := .int (iI (xi (6 + j)))) dX3_has_6 m_X3_has_f34 in_X3_has_X3 rfl (by decide) rfl (by omega) (cX_row hj) rfl ?_
    refine z_icmp_ge (tgt := 16) dX3_has_9 (by decide) (by omega) (by omega) (fun c_9 => ?_) (fun c_9 => ?_)
    · refine z_iconst dX3_has_16 ?_
      exact z_zret dX3_has_17 (Or.inl rfl) ⟨Or.inr ⟨(by omega), rfl⟩, rfl⟩
    · refine z_iconst dX3_has_12 ?_
      refine z_goto (tgt := 17) dX3_has_13 (by decide) ?_
      exact z_zret dX3_has_17 (Or.inr rfl) ⟨Or.inl ⟨(by omega), rfl⟩, rfl⟩
theorem cd_X3_has : yX3_has.cls = RX3 ∧ yX3_has.cls ≠ "java/lang/invoke/MethodHandle" ∧ yX3_has.cls ≠ "java/lang/invoke/VarHandle" ∧ (parseMethodDescriptor yX3_has.desc).map (fun d => d.parameters.length) = some 1 := ⟨rfl, by decide +kernel, by decide +kernel, by decide +kernel⟩
theorem m_X3_at_f9 : Cond.fieldLink RX3 9 "PoleBehind$Row" "numbers" "[I" ∈ wsX3_at := List.mem_of_getElem? (i := 1) rfl
theorem in_X3_at_X3 : ∀ w ∈ wsX30, w ∈ wsX3_at := fun _ h => List.mem_cons_of_mem _ (List.mem_append_right _ h)
set_option maxHeartbeats 4000000 in
set_option maxRecDepth 100000 in
theorem c_X3_at {l : Launch} {D : va_G} {cI cJ cZ cR : ClassId} {q : Nat → Nat} {w d : Nat} {xi : Nat → Int} {xa : Nat → Nat → Int} (hq : qOk 31 q) {j : Nat} {i : Int} (hj : j < 4) (hR : RowOk xi xa j) (hi : -2147483648 ≤ i ∧ i < 2147483648) : Cti l D vwCl (tysC cI cJ cZ cR) 31 q yX3_at wsX3_at ({ frames := 1, cells := 0, slots := 0, locals := 21 } : Room) [.ref (q (2 + j)), .int (iI i)] (cX cI cJ cZ cR q w d xi xa) (fun (r : Int32) (g : Nat → va_E) => (∃ e : Int, (e = if 0 ≤ i ∧ i < xi (6 + j) then xa j i.toNat else 0) ∧ r = iI e) ∧ g = (cX cI cJ cZ cR q w d xi xa)) := by
  refine Cti.of (cc := cX3_at) (nL := 2) (own := RX3) (ret := (some .int)) (by decide) rfl rfl hq (Nat.le_of_ble_eq_true rfl) (fun p e s m args below meth c => ?_)
  obtain ⟨hL, hN, hE⟩ := id hR
  refine z_aload_n (j := 0) dX3_at_0 rfl rfl ?_
  refine z_iload_n (j := 1) dX3_at_1 rfl rfl ?_
  refine z_callVi (i := 2 + j) (ci := 3) (As := [.int (iI i)]) (rest := []) (c_X3_has  hq hj hR (by omega)) dX3_at_2 gX3_at_X3_has rfl cd_X3_has ⟨Nat.le_of_ble_eq_true rfl, Nat.le_of_ble_eq_true rfl⟩ rfl rfl (by omega) (cX_row hj) rfl rfl (Nat.le_of_ble_eq_true rfl) ⟨Nat.zero_le _, Nat.zero_le _⟩ (fun r_2 g_2 hp_2 => ?_)
  obtain ⟨⟨h_2, rfl⟩ | ⟨h_2, rfl⟩, rfl⟩ := hp_2
  · refine z_if_eq (tgt := 17) dX3_at_5 (by decide) (by decide) (fun h => absurd h (by decide)) (fun _ => ?_)
    refine z_aload_n (j := 0) dX3_at_8 rfl rfl ?_
    refine z_getf (i := 2 + j) (ci := 3) (k := 0) (v := .ref (q (6 + j))) dX3_at_9 m_X3_at_f9 in_X3_at_X3 rfl (by decide) rfl (by omega) (cX_row hj) rfl ?_
    refine z_iload_n (j := 1) dX3_at_12 rfl rfl ?_
    refine z_iald (i := 6 + j) (g := xa j) 0 dX3_at_13 (by omega) (cX_num hj) rfl (by omega) (by omega) (by omega) ?_
    refine z_goto (tgt := 18) dX3_at_14 (by decide) ?_
    exact z_iret dX3_at_18 ⟨⟨_, (by first | rw [if_pos h_2] | rw [if_neg h_2]), rfl⟩, rfl⟩
  · refine z_if_eq (tgt := 17) dX3_at_5 (by decide) (by decide) (fun _ => ?_) (fun h => absurd h (by decide))
    refine z_iconst dX3_at_17 ?_
    exact z_iret dX3_at_18 ⟨⟨_, (by first | rw [if_pos h_2] | rw [if_neg h_2]), rfl⟩, rfl⟩
theorem cd_X3_isNothing : yX3_isNothing.cls = RX3 ∧ yX3_isNothing.cls ≠ "java/lang/invoke/MethodHandle" ∧ yX3_isNothing.cls ≠ "java/lang/invoke/VarHandle" ∧ (parseMethodDescriptor yX3_isNothing.desc).map (fun d => d.parameters.length) = some 0 := ⟨rfl, by decide +kernel, by decide +kernel, by decide +kernel⟩
theorem m_X3_faultAs_f15 : Cond.fieldLink RX3 15 "PoleBehind$Row" "lane" "I" ∈ wsX3_faultAs := List.mem_of_getElem? (i := 1) rfl
theorem in_X3_faultAs_X3 : ∀ w ∈ wsX30, w ∈ wsX3_faultAs := fun _ h => List.mem_cons_of_mem _ (List.mem_append_right _ h)
set_option maxHeartbeats 4000000 in
set_option maxRecDepth 100000 in
theorem c_X3_faultAs {l : Launch} {D : va_G} {cI cJ cZ cR : ClassId} {q : Nat → Nat} {w d : Nat} {xi : Nat → Int} {xa : Nat → Nat → Int} (hq : qOk 31 q) {j : Nat} {t : Int} (hj : j < 4) (hR : RowOk xi xa j) (ht : -2147483648 ≤ t ∧ t < 2147483648) : Cti l D vwCl (tysC cI cJ cZ cR) 31 q yX3_faultAs wsX3_faultAs ({ frames := 1, cells := 0, slots := 0, locals := 20 } : Room) [.ref (q (2 + j)), .int (iI t)] (cX cI cJ cZ cR q w d xi xa) (fun (r : Int32) (g : Nat → va_E) => (∃ e : Int, (e = if xi (2 + j) = -1 then 1 else if xi (2 + j) = t then 0 else 2) ∧ r = iI e) ∧ g = (cX cI cJ cZ cR q w d xi xa)) := by
  refine Cti.of (cc := cX3_faultAs) (nL := 2) (own := RX3) (ret := (some .int)) (by decide) rfl rfl hq (Nat.le_of_ble_eq_true rfl) (fun p e s m args below meth c => ?_)
  obtain ⟨hL, hN, hE⟩ := id hR
  refine z_aload_n (j := 0) dX3_faultAs_0 rfl rfl ?_
  refine z_callVi (i := 2 + j) (ci := 3) (As := []) (rest := []) (c_X3_isNothing  hq hj hR) dX3_faultAs_1 gX3_faultAs_X3_isNothing rfl cd_X3_isNothing ⟨Nat.le_of_ble_eq_true rfl, Nat.le_of_ble_eq_true rfl⟩ rfl rfl (by omega) (cX_row hj) rfl rfl (Nat.le_of_ble_eq_true rfl) ⟨Nat.zero_le _, Nat.zero_le _⟩ (fun r_1 g_1 hp_1 => ?_)
  obtain ⟨⟨h_1, rfl⟩ | ⟨h_1, rfl⟩, rfl⟩ := hp_1
  · refine z_if_eq (tgt := 9) dX3_faultAs_4 (by decide) (by decide) (fun h => absurd h (by decide)) (fun _ => ?_)
    refine z_iconst dX3_faultAs_7 ?_
    exact z_iret dX3_faultAs_8 ⟨⟨_, (by first | omega | (split <;> first | omega | rfl)), rfl⟩, rfl⟩
  · refine z_if_eq (tgt := 9) dX3_faultAs_4 (by decide) (by decide) (fun _ => ?_) (fun h => absurd h (by decide))
    refine z_aload_n (j := 0) dX3_faultAs_9 rfl rfl ?_
    refine z_getf (i := 2 + j) (ci := 3) (k := 1) (v := .int (iI (xi (2 + j)))) dX3_faultAs_10 m_X3_faultAs_f15 in_X3_faultAs_X3 rfl (by decide) rfl (by omega) (cX_row hj) rfl ?_
    refine z_iload_n (j := 1) dX3_faultAs_13 rfl rfl ?_
    refine z_icmp_ne (tgt := 21) dX3_faultAs_14 (by decide) (by omega) (by omega) (fun c_14 => ?_) (fun c_14 => ?_)
    · refine z_iconst dX3_faultAs_21 ?_
      exact z_iret dX3_faultAs_22 ⟨⟨_, (by first | omega | (split <;> first | omega | rfl)), rfl⟩, rfl⟩
    · refine z_iconst dX3_faultAs_17 ?_
      refine z_goto (tgt := 22) dX3_faultAs_18 (by decide) ?_
      exact z_iret dX3_faultAs_22 ⟨⟨_, (by first | omega | (split <;> first | omega | rfl)), rfl⟩, rfl⟩
theorem m_X3_hasStretch_f34 : Cond.fieldLink RX3 34 "PoleBehind$Row" "length" "I" ∈ wsX3_hasStretch := List.mem_of_getElem? (i := 1) rfl
theorem in_X3_hasStretch_X3 : ∀ w ∈ wsX30, w ∈ wsX3_hasStretch := fun _ h => List.mem_cons_of_mem _ (List.mem_append_right _ h)
set_option maxHeartbeats 4000000 in
set_option maxRecDepth 100000 in
theorem c_X3_hasStretch {l : Launch} {D : va_G} {cI cJ cZ cR : ClassId} {q : Nat → Nat} {w d : Nat} {xi : Nat → Int} {xa : Nat → Nat → Int} (hq : qOk 31 q) {j : Nat} {i t : Int} (hj : j < 4) (hR : RowOk xi xa j) (hi : -2147483648 ≤ i ∧ i < 2147483648) (ht : -2147483648 ≤ t ∧ t < 2147483648) : Cti l D vwCl (tysC cI cJ cZ cR) 31 q yX3_hasStretch wsX3_hasStretch ({ frames := 0, cells := 0, slots := 0, locals := 0 } : Room) [.ref (q (2 + j)), .int (iI i), .int (iI t)] (cX cI cJ cZ cR q w d xi xa) (fun (r : Int32) (g : Nat → va_E) => (((0 ≤ i ∧ i ≤ xi (6 + j) ∧ 0 ≤ t ∧ t ≤ xi (6 + j) - i) ∧ r = iI 1) ∨ (¬ (0 ≤ i ∧ i ≤ xi (6 + j) ∧ 0 ≤ t ∧ t ≤ xi (6 + j) - i) ∧ r = iI 0)) ∧ g = (cX cI cJ cZ cR q w d xi xa)) := by
  refine Cti.of (cc := cX3_hasStretch) (nL := 3) (own := RX3) (ret := (some .boolean)) (by decide) rfl rfl hq (Nat.le_of_ble_eq_true rfl) (fun p e s m args below meth c => ?_)
  obtain ⟨hL, hN, hE⟩ := id hR
  refine z_iload_n (j := 1) dX3_hasStretch_0 rfl rfl ?_
  refine z_if_lt (tgt := 30) dX3_hasStretch_1 (by decide) (by omega) (fun c_1 => ?_) (fun c_1 => ?_)
  · refine z_iconst dX3_hasStretch_30 ?_
    exact z_zret dX3_hasStretch_31 (Or.inl rfl) ⟨Or.inr ⟨(by omega), rfl⟩, rfl⟩
  · refine z_iload_n (j := 1) dX3_hasStretch_4 rfl rfl ?_
    refine z_aload_n (j := 0) dX3_hasStretch_5 rfl rfl ?_
    refine z_getf (i := 2 + j) (ci := 3) (k := 2) (v := .int (iI (xi (6 + j)))) dX3_hasStretch_6 m_X3_hasStretch_f34 in_X3_hasStretch_X3 rfl (by decide) rfl (by omega) (cX_row hj) rfl ?_
    refine z_icmp_gt (tgt := 30) dX3_hasStretch_9 (by decide) (by omega) (by omega) (fun c_9 => ?_) (fun c_9 => ?_)
    · refine z_iconst dX3_hasStretch_30 ?_
      exact z_zret dX3_hasStretch_31 (Or.inl rfl) ⟨Or.inr ⟨(by omega), rfl⟩, rfl⟩
    · refine z_iload_n (j := 2) dX3_hasStretch_12 rfl rfl ?_
      refine z_if_lt (tgt := 30) dX3_hasStretch_13 (by decide) (by omega) (fun c_13 => ?_) (fun c_13 => ?_)
      · refine z_iconst dX3_hasStretch_30 ?_
        exact z_zret dX3_hasStretch_31 (Or.inl rfl) ⟨Or.inr ⟨(by omega), rfl⟩, rfl⟩
      · refine z_iload_n (j := 2) dX3_hasStretch_16 rfl rfl ?_
        refine z_aload_n (j := 0) dX3_hasStretch_17 rfl rfl ?_
        refine z_getf (i := 2 + j) (ci := 3) (k := 2) (v := .int (iI (xi (6 + j)))) dX3_hasStretch_18 m_X3_hasStretch_f34 in_X3_hasStretch_X3 rfl (by decide) rfl (by omega) (cX_row hj) rfl ?_
        refine z_iload_n (j := 1) dX3_hasStretch_21 rfl rfl ?_
        refine z_isub dX3_hasStretch_22 ?_
        refine z_icmp_gt (tgt := 30) dX3_hasStretch_23 (by decide) (by omega) (by omega) (fun c_23 => ?_) (fun c_23 => ?_)
        · refine z_iconst dX3_hasStretch_30 ?_
          exact z_zret dX3_hasStretch_31 (Or.inl rfl) ⟨Or.inr ⟨(by omega), rfl⟩, rfl⟩
        · refine z_iconst dX3_hasStretch_26 ?_
          refine z_goto (tgt := 31) dX3_hasStretch_27 (by decide) ?_
          exact z_zret dX3_hasStretch_31 (Or.inr rfl) ⟨Or.inl ⟨(by omega), rfl⟩, rfl⟩
theorem m_X3_cutToLane_f15 : Cond.fieldLink RX3 15 "PoleBehind$Row" "lane" "I" ∈ wsX3_cutToLane := List.mem_of_getElem? (i := 1) rfl
theorem in_X3_cutToLane_X3 : ∀ w ∈ wsX30, w ∈ wsX3_cutToLane := fun _ h => List.mem_cons_of_mem _ (List.mem_append_right _ h)
set_option maxHeartbeats 4000000 in
set_option maxRecDepth 100000 in
theorem c_X3_cutToLane {l : Launch} {D : va_G} {cI cJ cZ cR : ClassId} {q : Nat → Nat} {w d : Nat} {xi : Nat → Int} {xa : Nat → Nat → Int} (hq : qOk 31 q) {j : Nat} {v : Int} (hj : j < 4) (hR : RowOk xi xa j) (hv : -2147483648 ≤ v ∧ v < 2147483648) : Cti l D vwCl (tysC cI cJ cZ cR) 31 q yX3_cutToLane wsX3_cutToLane ({ frames := 0, cells := 0, slots := 0, locals := 0 } : Room) [.ref (q (2 + j)), .int (iI v)] (cX cI cJ cZ cR q w d xi xa) (fun (r : Int32) (g : Nat → va_E) => (∃ e : Int, (e = cutL (xi (2 + j)) v) ∧ r = iI e) ∧ g = (cX cI cJ cZ cR q w d xi xa)) := by
  refine Cti.of (cc := cX3_cutToLane) (nL := 2) (own := RX3) (ret := (some .int)) (by decide) rfl rfl hq (Nat.le_of_ble_eq_true rfl) (fun p e s m args below meth c => ?_)
  obtain ⟨hL, hN, hE⟩ := id hR
  refine z_aload_n (j := 0) dX3_cutToLane_0 rfl rfl ?_
  refine z_getf (i := 2 + j) (ci := 3) (k := 1) (v := .int (iI (xi (2 + j)))) dX3_cutToLane_1 m_X3_cutToLane_f15 in_X3_cutToLane_X3 rfl (by decide) rfl (by omega) (cX_row hj) rfl ?_
  by_cases k_4_0 : xi (2 + j) = 0
  · refine z_lsw (off := 28) (tgt := 32) dX3_cutToLane_4 (by omega) (by decide) (by rw [k_4_0]; decide) (by decide) ?_
    refine z_iload_n (j := 1) dX3_cutToLane_32 rfl rfl ?_
    refine z_i2b dX3_cutToLane_33 ?_
    exact z_iret dX3_cutToLane_34 ⟨⟨_, (by unfold cutL; first | rw [if_pos (by omega)] | rw [if_neg (by omega), if_pos (by omega)] | rw [if_neg (by omega), if_neg (by omega)]), rfl⟩, rfl⟩
  ·
    by_cases k_4_1 : xi (2 + j) = 1
    · refine z_lsw (off := 31) (tgt := 35) dX3_cutToLane_4 (by omega) (by decide) (by rw [k_4_1]; decide) (by decide) ?_
      refine z_iload_n (j := 1) dX3_cutToLane_35 rfl rfl ?_
      refine z_i2s dX3_cutToLane_36 ?_
      exact z_iret dX3_cutToLane_37 ⟨⟨_, (by unfold cutL; first | rw [if_pos (by omega)] | rw [if_neg (by omega), if_pos (by omega)] | rw [if_neg (by omega), if_neg (by omega)]), rfl⟩, rfl⟩
    ·
      refine z_lsw (off := 34) (tgt := 38) dX3_cutToLane_4 (by omega) (by decide) (by first | (show Op.lookupswitch.offset [(0, 28), (1, 31)] _ _ = _; rw [Op.lookupswitch.offset_cons, if_neg (fun h => k_4_0 h.symm), Op.lookupswitch.offset_cons, if_neg (fun h => k_4_1 h.symm)]; rfl) | (show Op.lookupswitch.offset [(0, 28), (1, 31)] _ _ = _; rw [Op.lookupswitch.offset_cons, if_neg k_4_0, Op.lookupswitch.offset_cons, if_neg k_4_1]; rfl)) (by decide) ?_
      refine z_iload_n (j := 1) dX3_cutToLane_38 rfl rfl ?_
      exact z_iret dX3_cutToLane_39 ⟨⟨_, (by unfold cutL; first | rw [if_pos (by omega)] | rw [if_neg (by omega), if_pos (by omega)] | rw [if_neg (by omega), if_neg (by omega)]), rfl⟩, rfl⟩
theorem m_X3_become_f9 : Cond.fieldLink RX3 9 "PoleBehind$Row" "numbers" "[I" ∈ wsX3_become := List.mem_of_getElem? (i := 1) rfl
theorem in_X3_become_X3 : ∀ w ∈ wsX30, w ∈ wsX3_become := fun _ h => List.mem_cons_of_mem _ (List.mem_append_right _ h)
theorem cd_X3_cutToLane : yX3_cutToLane.cls = RX3 ∧ yX3_cutToLane.cls ≠ "java/lang/invoke/MethodHandle" ∧ yX3_cutToLane.cls ≠ "java/lang/invoke/VarHandle" ∧ (parseMethodDescriptor yX3_cutToLane.desc).map (fun d => d.parameters.length) = some 1 := ⟨rfl, by decide +kernel, by decide +kernel, by decide +kernel⟩
set_option maxHeartbeats 4000000 in
set_option maxRecDepth 100000 in
theorem c_X3_become {l : Launch} {D : va_G} {cI cJ cZ cR : ClassId} {q : Nat → Nat} {w d : Nat} {xi : Nat → Int} {xa : Nat → Nat → Int} (hq : qOk 31 q) {j : Nat} {i v : Int} (hj : j < 4) (hR : RowOk xi xa j) (hi : -2147483648 ≤ i ∧ i < 2147483648) (hv : -2147483648 ≤ v ∧ v < 2147483648) : Ctv l D vwCl (tysC cI cJ cZ cR) 31 q yX3_become wsX3_become ({ frames := 1, cells := 0, slots := 0, locals := 21 } : Room) [.ref (q (2 + j)), .int (iI i), .int (iI v)] (cX cI cJ cZ cR q w d xi xa) (fun (g : Nat → va_E) => ∃ (xa' : Nat → Nat → Int), (xa' = if 0 ≤ i ∧ i < xi (6 + j) then va_up xa j (va_up (xa j) i.toNat (cutL (xi (2 + j)) v)) else xa) ∧ g = (cX cI cJ cZ cR q w d xi xa')) := by
  refine Ctv.of (cc := cX3_become) (nL := 3) (own := RX3) (ret := none) (by decide) rfl rfl hq (Nat.le_of_ble_eq_true rfl) (fun p e s m args below meth c => ?_)
  obtain ⟨hL, hN, hE⟩ := id hR
  refine z_aload_n (j := 0) dX3_become_0 rfl rfl ?_
  refine z_iload_n (j := 1) dX3_become_1 rfl rfl ?_
  refine z_callVi (i := 2 + j) (ci := 3) (As := [.int (iI i)]) (rest := []) (c_X3_has  hq hj hR (by omega)) dX3_become_2 gX3_become_X3_has rfl cd_X3_has ⟨Nat.le_of_ble_eq_true rfl, Nat.le_of_ble_eq_true rfl⟩ rfl rfl (by omega) (cX_row hj) rfl rfl (Nat.le_of_ble_eq_true rfl) ⟨Nat.zero_le _, Nat.zero_le _⟩ (fun r_2 g_2 hp_2 => ?_)
  obtain ⟨⟨h_2, rfl⟩ | ⟨h_2, rfl⟩, rfl⟩ := hp_2
  · refine z_if_eq (tgt := 19) dX3_become_5 (by decide) (by decide) (fun h => absurd h (by decide)) (fun _ => ?_)
    refine z_aload_n (j := 0) dX3_become_8 rfl rfl ?_
    refine z_getf (i := 2 + j) (ci := 3) (k := 0) (v := .ref (q (6 + j))) dX3_become_9 m_X3_become_f9 in_X3_become_X3 rfl (by decide) rfl (by omega) (cX_row hj) rfl ?_
    refine z_iload_n (j := 1) dX3_become_12 rfl rfl ?_
    refine z_aload_n (j := 0) dX3_become_13 rfl rfl ?_
    refine z_iload_n (j := 2) dX3_become_14 rfl rfl ?_
    refine z_callVi (i := 2 + j) (ci := 3) (As := [.int (iI v)]) (rest := [.int (iI i), .ref (q (6 + j))]) (c_X3_cutToLane  hq hj hR (by omega)) dX3_become_15 gX3_become_X3_cutToLane rfl cd_X3_cutToLane ⟨Nat.le_of_ble_eq_true rfl, Nat.le_of_ble_eq_true rfl⟩ rfl rfl (by omega) (cX_row hj) rfl rfl (Nat.le_of_ble_eq_true rfl) ⟨Nat.zero_le _, Nat.zero_le _⟩ (fun r_15 g_15 hp_15 => ?_)
    obtain ⟨⟨e_15, he_15, rfl⟩, rfl⟩ := hp_15
    refine z_iast (i := 6 + j) (g := xa j) 0 (cX cI cJ cZ cR q w d xi (va_up xa j (va_up (xa j) i.toNat e_15))) dX3_become_18 (by omega) (cX_num hj) rfl (by omega) (by omega) (by omega) (lx_num hj) ?_
    exact z_vret dX3_become_19 ⟨_, (by first | rw [if_pos h_2, he_15] | rw [if_neg h_2]), rfl⟩
  · refine z_if_eq (tgt := 19) dX3_become_5 (by decide) (by decide) (fun _ => ?_) (fun h => absurd h (by decide))
    exact z_vret dX3_become_19 ⟨_, (by first | rw [if_pos h_2, he_15] | rw [if_neg h_2]), rfl⟩
