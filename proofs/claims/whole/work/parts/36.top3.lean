theorem m_X7_travel_f63 : Cond.fieldLink RX7 63 "PoleBehind" "lastFault" "I" ∈ wsX7_travel := List.mem_of_getElem? (i := 1) rfl
theorem in_X7_travel_X7 : ∀ w ∈ wsX70, w ∈ wsX7_travel := fun _ h => List.mem_cons_of_mem _ (List.mem_append_left _ (List.mem_append_left _ (List.mem_append_left _ (List.mem_append_right _ h))))
theorem m_X7_travel_f20 : Cond.fieldLink RX7 20 "PoleBehind" "water" "LPoleBehind$River;" ∈ wsX7_travel := List.mem_of_getElem? (i := 2) rfl
theorem cd_X7_carryOut : yX7_carryOut.cls = RX7 ∧ yX7_carryOut.cls ≠ "java/lang/invoke/MethodHandle" ∧ yX7_carryOut.cls ≠ "java/lang/invoke/VarHandle" ∧ (parseMethodDescriptor yX7_carryOut.desc).map (fun d => d.parameters.length) = some 4 := ⟨rfl, by decide +kernel, by decide +kernel, by decide +kernel⟩
set_option maxHeartbeats 400000 in
set_option maxRecDepth 100000 in
theorem c_X7_travel {l : Launch} {D : va_G} {cI cJ cZ cR : ClassId} {q : Nat → Nat} {w d : Nat} {xi : Nat → Int} {xa : Nat → Nat → Int} (hq : qOk 31 q) {z ln i nn okb : Int} (hO : XOk w d xi xa) (hz : -2147483648 ≤ z ∧ z < 2147483648) (hl : -2147483648 ≤ ln ∧ ln < 2147483648) (hi : -2147483648 ≤ i ∧ i < 2147483648) (hnn : -2147483648 ≤ nn ∧ nn < 2147483648) (hok : okb = 0 ∨ okb = 1) : Cti l D vwCl (tysC cI cJ cZ cR) 31 q yX7_travel wsX7_travel ({ frames := 5, cells := 0, slots := 0, locals := 118 } : Room) [.ref (q 0), .int (iI z), .int (iI ln), .int (iI i), .int (iI nn), .int (iI okb)] (cX cI cJ cZ cR q w d xi xa) (fun (r : Int32) (g : Nat → va_E) => ∃ (e : Int) (xi' : Nat → Int) (xa' : Nat → Nat → Int), (e = (chkPlan (vX w xi xa) z ln i nn (okb = 1)).1 ∧ vX w xi' xa' = sFa (vX w xi xa) (chkPlan (vX w xi xa) z ln i nn (okb = 1)).2 ∧ XOk w d xi' xa' ∧ (e = 0 → JF (vX w xi xa) z.toNat i nn xi' xa' ∧ (0 ≤ z ∧ z ≤ 3) ∧ (0 ≤ nn ∧ nn ≤ 18) ∧ okb = 1 ∧ 2 ≤ xi (10 + w)) ∧ (∀ k, (2 ≤ k ∧ k ≤ 14) ∨ k = 18 ∨ k = 19 → xi' k = xi k) ∧ ∀ k, k ≠ 12 → k ≠ 13 → xa' k = xa k) ∧ r = iI e ∧ g = (cX cI cJ cZ cR q w d xi' xa')) := by
  refine Cti.of (cc := cX7_travel) (nL := 7) (own := RX7) (ret := (some .int)) (by decide) rfl rfl hq (Nat.le_of_ble_eq_true rfl) (fun p e s m args below meth c => ?_)
  obtain ⟨⟨hw, hd⟩, hRows, hRvs, hn2, ⟨hRd, hRd2⟩, hJ, ⟨hst, hTab⟩, hfa, hsg⟩ := id hO
  have hRw := hRvs w hw
  obtain ⟨hN, hP, hK, hM, hD, hB⟩ := id hRw
  have hnA : rN (aR (vX w xi xa)) = xi (10 + w) := rfl
  have hO0 := XOk_fa (f := 0) hO (by omega)
  have hu : ∀ k, k ≠ 1 → va_up xi 1 0 k = xi k := fun k h => up_n h
  have hu1 : ∀ v : Int, va_up (va_up xi 1 0) 1 v = va_up xi 1 v := fun v => bx_uu _ _ _ _
  have hRows0 := hO0.2.1
  refine z_aload_n (j := 0) dX7_travel_0 rfl rfl ?_
  refine z_iconst dX7_travel_1 ?_
  refine z_putf (i := 0) (ci := 7) (k := 9) (cX cI cJ cZ cR q w d (va_up xi 1 0) xa) dX7_travel_2 m_X7_travel_f63 in_X7_travel_X7 rfl (by decide) rfl (by omega) rfl tyX7_ok nmX7 rfl rfl rfl (Nat.le_of_ble_eq_true rfl) lx_fault ?_
  refine z_aload_n (j := 0) dX7_travel_5 rfl rfl ?_
  refine z_iload_n (j := 1) dX7_travel_6 rfl rfl ?_
  refine z_callVq (i := 0) (ci := 7) (As := [.int (iI z)]) (rest := []) (c_X7_rowOf  hq (by omega)) dX7_travel_7 gX7_travel_X7_rowOf rfl cd_X7_rowOf ⟨Nat.le_of_ble_eq_true rfl, Nat.le_of_ble_eq_true rfl⟩ rfl rfl (by omega) rfl rfl rfl (Nat.le_of_ble_eq_true rfl) ⟨Nat.zero_le _, Nat.zero_le _⟩ (fun r_7 g_7 hp_7 => ?_)
  obtain ⟨rfl, rfl⟩ := hp_7
  by_cases k_7 : 0 ≤ z ∧ z < 4
  · rw [if_pos k_7]
    refine z_asref ?_
    refine z_astore [(6, .ref (q (2 + z.toNat))), (0, .ref (q 0)), (1, .int (iI z)), (2, .int (iI ln)), (3, .int (iI i)), (4, .int (iI nn)), (5, .int (iI okb))] dX7_travel_10 (by decide) rfl ?_
    refine z_aload (j := 0) dX7_travel_12 rfl ?_
    refine z_ifnonnull (tgt := 19) dX7_travel_14 (by decide) ?_
    refine z_iload_n (j := 3) dX7_travel_19 rfl rfl ?_
    refine z_callSi (As := [.int (iI ln)]) (rest := []) (c_X7_isLane  hq (by omega)) dX7_travel_20 gX7_travel_X7_isLane rfl cd_X7_isLane ⟨Nat.le_of_ble_eq_true rfl, Nat.le_of_ble_eq_true rfl⟩ rfl rfl rfl (Nat.le_of_ble_eq_true rfl) ⟨Nat.zero_le _, Nat.zero_le _⟩ (fun r_20 g_20 hp_20 => ?_)
    obtain ⟨⟨h_20, rfl⟩ | ⟨h_20, rfl⟩, rfl⟩ := hp_20
    · refine z_if_eq (tgt := 43) dX7_travel_23 (by decide) (by decide) (fun h => absurd h (by decide)) (fun _ => ?_)
      refine z_iload (j := 5) dX7_travel_26 rfl ?_
      refine z_if_lt (tgt := 43) dX7_travel_28 (by decide) (by omega) (fun c_28 => ?_) (fun c_28 => ?_)
      · refine z_bipush dX7_travel_43 (by decide) ?_
        exact z_iret dX7_travel_45 ⟨_, _, _, (by unfold chkPlan; rw [if_neg (by omega), if_pos (by omega)]; exact ⟨rfl, vX_fa hw, hO0, fun q => absurd q (by decide), fun k hk => up_n (by omega), fun _ _ _ => rfl⟩), rfl, rfl⟩
      · refine z_iload (j := 5) dX7_travel_31 rfl ?_
        refine z_bipush dX7_travel_33 (by decide) ?_
        refine z_icmp_gt (tgt := 43) dX7_travel_35 (by decide) (by omega) (by decide) (fun c_35 => ?_) (fun c_35 => ?_)
        · refine z_bipush dX7_travel_43 (by decide) ?_
          exact z_iret dX7_travel_45 ⟨_, _, _, (by unfold chkPlan; rw [if_neg (by omega), if_pos (by omega)]; exact ⟨rfl, vX_fa hw, hO0, fun q => absurd q (by decide), fun k hk => up_n (by omega), fun _ _ _ => rfl⟩), rfl, rfl⟩
        · refine z_iload (j := 6) dX7_travel_38 rfl ?_
          refine z_if_ne (tgt := 46) dX7_travel_40 (by decide) (by omega) (fun c_40 => ?_) (fun c_40 => ?_)
          · refine z_aload_n (j := 1) dX7_travel_46 rfl rfl ?_
            refine z_getf (i := 0) (ci := 7) (k := 1) (v := .ref (q (10 + w))) dX7_travel_47 m_X7_travel_f20 in_X7_travel_X7 rfl (by decide) rfl (by omega) rfl rfl ?_
            refine z_callVi (i := 10 + w) (ci := 2) (As := []) (rest := []) (c_X2_isNone  hq hw (hO0.2.2.1 w hw)) dX7_travel_50 gX7_travel_X2_isNone rfl cd_X2_isNone ⟨Nat.le_of_ble_eq_true rfl, Nat.le_of_ble_eq_true rfl⟩ rfl rfl (by omega) (cX_rv hw) rfl rfl (Nat.le_of_ble_eq_true rfl) ⟨Nat.zero_le _, Nat.zero_le _⟩ (fun r_50 g_50 hp_50 => ?_)
            obtain ⟨⟨h_50, rfl⟩ | ⟨h_50, rfl⟩, rfl⟩ := hp_50
            · refine z_if_eq (tgt := 59) dX7_travel_53 (by decide) (by decide) (fun h => absurd h (by decide)) (fun _ => ?_)
              refine z_bipush dX7_travel_56 (by decide) ?_
              exact z_iret dX7_travel_58 ⟨_, _, _, (by rw [hu _ (by omega)] at h_50; unfold chkPlan; rw [if_neg (by omega), if_neg (by omega), if_pos (show rN (aR (vX w xi xa)) = 0 from h_50)]; exact ⟨rfl, vX_fa hw, hO0, fun q => absurd q (by decide), fun k hk => up_n (by omega), fun _ _ _ => rfl⟩), rfl, rfl⟩
            · refine z_if_eq (tgt := 59) dX7_travel_53 (by decide) (by decide) (fun _ => ?_) (fun h => absurd h (by decide))
              refine z_aload_n (j := 1) dX7_travel_59 rfl rfl ?_
              refine z_aload (j := 0) dX7_travel_60 rfl ?_
              refine z_iload_n (j := 3) dX7_travel_62 rfl rfl ?_
              refine z_iload_n (j := 4) dX7_travel_63 rfl rfl ?_
              refine z_iload (j := 5) dX7_travel_64 rfl ?_
              refine z_callVi (i := 0) (ci := 7) (As := [.ref (q (2 + z.toNat)), .int (iI ln), .int (iI i), .int (iI nn)]) (rest := []) (c_X7_carryOut  hq hO0 (by omega) (by omega) (by omega) (by omega) up_s) dX7_travel_66 gX7_travel_X7_carryOut rfl cd_X7_carryOut ⟨Nat.le_of_ble_eq_true rfl, Nat.le_of_ble_eq_true rfl⟩ rfl rfl (by omega) rfl rfl rfl (Nat.le_of_ble_eq_true rfl) ⟨Nat.zero_le _, Nat.zero_le _⟩ (fun r_66 g_66 hp_66 => ?_)
              obtain ⟨e_66, xi_66, xa_66, he_66, rfl, rfl⟩ := hp_66
              exact z_iret dX7_travel_69 ⟨_, _, _, (by
      rw [hu _ (by omega)] at h_50
      rw [vX_fa hw, chkActs_fa, fa_fa, JF_fa] at he_66
      obtain ⟨g1, g2, g3, g4, g5, g6⟩ := he_66
      unfold chkPlan; rw [if_neg (by omega), if_neg (by omega), if_neg (show ¬ rN (aR (vX w xi xa)) = 0 from h_50)]
      exact ⟨g1, g2, g3, fun q => ⟨g4 q, by omega, by omega, by omega, by omega⟩, fun k hk => (g5 k hk).trans (hu k (by omega)), g6⟩), rfl, rfl⟩
          · refine z_bipush dX7_travel_43 (by decide) ?_
            exact z_iret dX7_travel_45 ⟨_, _, _, (by unfold chkPlan; rw [if_neg (by omega), if_pos (by omega)]; exact ⟨rfl, vX_fa hw, hO0, fun q => absurd q (by decide), fun k hk => up_n (by omega), fun _ _ _ => rfl⟩), rfl, rfl⟩
    · refine z_if_eq (tgt := 43) dX7_travel_23 (by decide) (by decide) (fun _ => ?_) (fun h => absurd h (by decide))
      refine z_bipush dX7_travel_43 (by decide) ?_
      exact z_iret dX7_travel_45 ⟨_, _, _, (by unfold chkPlan; rw [if_neg (by omega), if_pos (by omega)]; exact ⟨rfl, vX_fa hw, hO0, fun q => absurd q (by decide), fun k hk => up_n (by omega), fun _ _ _ => rfl⟩), rfl, rfl⟩
  · rw [if_neg k_7]
    refine z_asnull ?_
    refine z_astoreN [(6, .null), (0, .ref (q 0)), (1, .int (iI z)), (2, .int (iI ln)), (3, .int (iI i)), (4, .int (iI nn)), (5, .int (iI okb))] dX7_travel_10 (by decide) rfl ?_
    refine z_aloadN (j := 0) dX7_travel_12 rfl ?_
    refine z_ifnonnullN dX7_travel_14 ?_
    refine z_iconst dX7_travel_17 ?_
    exact z_iret dX7_travel_18 ⟨_, _, _, (by unfold chkPlan; rw [if_pos (by omega)]; exact ⟨rfl, vX_fa hw, hO0, fun q => absurd q (by decide), fun k hk => up_n (by omega), fun _ _ _ => rfl⟩), rfl, rfl⟩
theorem m_X7_travelFor_f63 : Cond.fieldLink RX7 63 "PoleBehind" "lastFault" "I" ∈ wsX7_travelFor := List.mem_of_getElem? (i := 1) rfl
theorem in_X7_travelFor_X7 : ∀ w ∈ wsX70, w ∈ wsX7_travelFor := fun _ h => List.mem_cons_of_mem _ (List.mem_append_left _ (List.mem_append_left _ (List.mem_append_left _ (List.mem_append_right _ h))))
theorem m_X7_travelFor_f20 : Cond.fieldLink RX7 20 "PoleBehind" "water" "LPoleBehind$River;" ∈ wsX7_travelFor := List.mem_of_getElem? (i := 2) rfl
theorem m_X7_travelFor_c223 : Cond.constant RX7 223 (iI (1000000000)) ∈ wsX7_travelFor := List.mem_of_getElem? (i := 3) (by decide +kernel)
theorem m_X7_travelFor_f37 : Cond.fieldLink RX7 37 "PoleBehind" "journey" "LPoleBehind$Journey;" ∈ wsX7_travelFor := List.mem_of_getElem? (i := 4) rfl
theorem nwf_X7_137 : Cond.fieldLinkNest RX7 137 "PoleBehind$Journey" "firstWrong" "I" "PoleBehind" ∈ NWl := List.mem_of_getElem? (i := 7) rfl
theorem in_X7_travelFor_X0 : ∀ w ∈ wsX00, w ∈ wsX7_travelFor := fun _ h => List.mem_cons_of_mem _ (List.mem_append_left _ (List.mem_append_left _ (List.mem_append_right _ h)))
set_option maxHeartbeats 400000 in
set_option maxRecDepth 100000 in
theorem c_X7_travelFor {l : Launch} {D : va_G} {cI cJ cZ cR : ClassId} {q : Nat → Nat} {w d : Nat} {xi : Nat → Int} {xa : Nat → Nat → Int} (hq : qOk 31 q) {cc z ln i nn up : Int} (hO : XOk w d xi xa) (hc : -2147483648 ≤ cc ∧ cc < 2147483648) (hz : -2147483648 ≤ z ∧ z < 2147483648) (hl : -2147483648 ≤ ln ∧ ln < 2147483648) (hi : -2147483648 ≤ i ∧ i < 2147483648) (hnn : -2147483648 ≤ nn ∧ nn < 2147483648) (hup : -2147483648 ≤ up ∧ up < 2147483648) : Cti l D vwCl (tysC cI cJ cZ cR) 31 q yX7_travelFor wsX7_travelFor ({ frames := 5, cells := 0, slots := 0, locals := 118 } : Room) [.ref (q 0), .int (iI cc), .int (iI z), .int (iI ln), .int (iI i), .int (iI nn), .int (iI up)] (cX cI cJ cZ cR q w d xi xa) (fun (r : Int32) (g : Nat → va_E) => ∃ (e : Int) (xi' : Nat → Int) (xa' : Nat → Nat → Int), (e = (chkFor (vX w xi xa) cc z ln i nn up).1 ∧ vX w xi' xa' = sFa (vX w xi xa) (chkFor (vX w xi xa) cc z ln i nn up).2 ∧ XOk w d xi' xa' ∧ (e = 0 → JF (vX w xi xa) z.toNat i nn xi' xa' ∧ (runA (vX w xi xa) z.toNat i nn).2 = -9 ∧ (0 ≤ z ∧ z ≤ 3) ∧ (0 ≤ nn ∧ nn ≤ 9) ∧ (0 ≤ up ∧ up ≤ 1000000000) ∧ (0 ≤ cc ∧ cc < xi (10 + w))) ∧ (∀ k, (2 ≤ k ∧ k ≤ 14) ∨ k = 18 ∨ k = 19 → xi' k = xi k) ∧ ∀ k, k ≠ 12 → k ≠ 13 → xa' k = xa k) ∧ r = iI e ∧ g = (cX cI cJ cZ cR q w d xi' xa')) := by
  refine Cti.of (cc := cX7_travelFor) (nL := 9) (own := RX7) (ret := (some .int)) (by decide) rfl rfl hq (Nat.le_of_ble_eq_true rfl) (fun p e s m args below meth c => ?_)
  obtain ⟨⟨hw, hd⟩, hRows, hRvs, hn2, ⟨hRd, hRd2⟩, hJ, ⟨hst, hTab⟩, hfa, hsg⟩ := id hO
  have hRw := hRvs w hw
  obtain ⟨hN, hP, hK, hM, hD, hB⟩ := id hRw
  have hnA : rN (aR (vX w xi xa)) = xi (10 + w) := rfl
  have hO0 := XOk_fa (f := 0) hO (by omega)
  have hu : ∀ k, k ≠ 1 → va_up xi 1 0 k = xi k := fun k h => up_n h
  have hu1 : ∀ v : Int, va_up (va_up xi 1 0) 1 v = va_up xi 1 v := fun v => bx_uu _ _ _ _
  have hRows0 := hO0.2.1
  refine z_aload_n (j := 0) dX7_travelFor_0 rfl rfl ?_
  refine z_iconst dX7_travelFor_1 ?_
  refine z_putf (i := 0) (ci := 7) (k := 9) (cX cI cJ cZ cR q w d (va_up xi 1 0) xa) dX7_travelFor_2 m_X7_travelFor_f63 in_X7_travelFor_X7 rfl (by decide) rfl (by omega) rfl tyX7_ok nmX7 rfl rfl rfl (Nat.le_of_ble_eq_true rfl) lx_fault ?_
  refine z_aload_n (j := 0) dX7_travelFor_5 rfl rfl ?_
  refine z_iload_n (j := 2) dX7_travelFor_6 rfl rfl ?_
  refine z_callVq (i := 0) (ci := 7) (As := [.int (iI z)]) (rest := []) (c_X7_rowOf  hq (by omega)) dX7_travelFor_7 gX7_travelFor_X7_rowOf rfl cd_X7_rowOf ⟨Nat.le_of_ble_eq_true rfl, Nat.le_of_ble_eq_true rfl⟩ rfl rfl (by omega) rfl rfl rfl (Nat.le_of_ble_eq_true rfl) ⟨Nat.zero_le _, Nat.zero_le _⟩ (fun r_7 g_7 hp_7 => ?_)
  obtain ⟨rfl, rfl⟩ := hp_7
  by_cases k_7 : 0 ≤ z ∧ z < 4
  · rw [if_pos k_7]
    refine z_asref ?_
    refine z_astore [(7, .ref (q (2 + z.toNat))), (0, .ref (q 0)), (1, .int (iI cc)), (2, .int (iI z)), (3, .int (iI ln)), (4, .int (iI i)), (5, .int (iI nn)), (6, .int (iI up))] dX7_travelFor_10 (by decide) rfl ?_
    refine z_aload_n (j := 1) dX7_travelFor_12 rfl rfl ?_
    refine z_getf (i := 0) (ci := 7) (k := 1) (v := .ref (q (10 + w))) dX7_travelFor_13 m_X7_travelFor_f20 in_X7_travelFor_X7 rfl (by decide) rfl (by omega) rfl rfl ?_
    refine z_iload_n (j := 2) dX7_travelFor_16 rfl rfl ?_
    refine z_callVi (i := 10 + w) (ci := 2) (As := [.int (iI cc)]) (rest := []) (c_X2_has  hq hw (hO0.2.2.1 w hw) (by omega)) dX7_travelFor_17 gX7_travelFor_X2_has rfl cd_X2_has ⟨Nat.le_of_ble_eq_true rfl, Nat.le_of_ble_eq_true rfl⟩ rfl rfl (by omega) (cX_rv hw) rfl rfl (Nat.le_of_ble_eq_true rfl) ⟨Nat.zero_le _, Nat.zero_le _⟩ (fun r_17 g_17 hp_17 => ?_)
    obtain ⟨⟨h_17, rfl⟩ | ⟨h_17, rfl⟩, rfl⟩ := hp_17
    · refine z_if_eq (tgt := 28) dX7_travelFor_20 (by decide) (by decide) (fun h => absurd h (by decide)) (fun _ => ?_)
      refine z_aload (j := 0) dX7_travelFor_23 rfl ?_
      refine z_ifnonnull (tgt := 30) dX7_travelFor_25 (by decide) ?_
      refine z_iload_n (j := 4) dX7_travelFor_30 rfl rfl ?_
      refine z_callSi (As := [.int (iI ln)]) (rest := []) (c_X7_isLane  hq (by omega)) dX7_travelFor_31 gX7_travelFor_X7_isLane rfl cd_X7_isLane ⟨Nat.le_of_ble_eq_true rfl, Nat.le_of_ble_eq_true rfl⟩ rfl rfl rfl (Nat.le_of_ble_eq_true rfl) ⟨Nat.zero_le _, Nat.zero_le _⟩ (fun r_31 g_31 hp_31 => ?_)
      obtain ⟨⟨h_31, rfl⟩ | ⟨h_31, rfl⟩, rfl⟩ := hp_31
      · refine z_if_eq (tgt := 61) dX7_travelFor_34 (by decide) (by decide) (fun h => absurd h (by decide)) (fun _ => ?_)
        refine z_iload (j := 6) dX7_travelFor_37 rfl ?_
        refine z_if_lt (tgt := 61) dX7_travelFor_39 (by decide) (by omega) (fun c_39 => ?_) (fun c_39 => ?_)
        · refine z_bipush dX7_travelFor_61 (by decide) ?_
          exact z_iret dX7_travelFor_63 ⟨_, _, _, (by
      rw [hu _ (by omega)] at h_17
      unfold chkFor; rw [if_neg (by rw [hnA]; omega), if_pos (by omega)]
      exact ⟨rfl, vX_fa hw, hO0, fun q => absurd q (by decide), fun k hk => up_n (by omega), fun _ _ _ => rfl⟩), rfl, rfl⟩
        · refine z_iload (j := 6) dX7_travelFor_42 rfl ?_
          refine z_bipush dX7_travelFor_44 (by decide) ?_
          refine z_icmp_gt (tgt := 61) dX7_travelFor_46 (by decide) (by omega) (by decide) (fun c_46 => ?_) (fun c_46 => ?_)
          · refine z_bipush dX7_travelFor_61 (by decide) ?_
            exact z_iret dX7_travelFor_63 ⟨_, _, _, (by
      rw [hu _ (by omega)] at h_17
      unfold chkFor; rw [if_neg (by rw [hnA]; omega), if_pos (by omega)]
      exact ⟨rfl, vX_fa hw, hO0, fun q => absurd q (by decide), fun k hk => up_n (by omega), fun _ _ _ => rfl⟩), rfl, rfl⟩
          · refine z_iload (j := 7) dX7_travelFor_49 rfl ?_
            refine z_if_lt (tgt := 61) dX7_travelFor_51 (by decide) (by omega) (fun c_51 => ?_) (fun c_51 => ?_)
            · refine z_bipush dX7_travelFor_61 (by decide) ?_
              exact z_iret dX7_travelFor_63 ⟨_, _, _, (by
      rw [hu _ (by omega)] at h_17
      unfold chkFor; rw [if_neg (by rw [hnA]; omega), if_pos (by omega)]
      exact ⟨rfl, vX_fa hw, hO0, fun q => absurd q (by decide), fun k hk => up_n (by omega), fun _ _ _ => rfl⟩), rfl, rfl⟩
            · refine z_iload (j := 7) dX7_travelFor_54 rfl ?_
              refine z_ldc dX7_travelFor_56 m_X7_travelFor_c223 ?_
              refine z_icmp_le (tgt := 64) dX7_travelFor_58 (by decide) (by omega) (by decide) (fun c_58 => ?_) (fun c_58 => ?_)
              · refine z_aload_n (j := 1) dX7_travelFor_64 rfl rfl ?_
                refine z_aload (j := 0) dX7_travelFor_65 rfl ?_
                refine z_iload_n (j := 4) dX7_travelFor_67 rfl rfl ?_
                refine z_iload (j := 5) dX7_travelFor_68 rfl ?_
                refine z_iload (j := 6) dX7_travelFor_70 rfl ?_
                refine z_callVi (i := 0) (ci := 7) (As := [.ref (q (2 + z.toNat)), .int (iI ln), .int (iI i), .int (iI nn)]) (rest := []) (c_X7_carryOut  hq hO0 (by omega) (by omega) (by omega) (by omega) up_s) dX7_travelFor_72 gX7_travelFor_X7_carryOut rfl cd_X7_carryOut ⟨Nat.le_of_ble_eq_true rfl, Nat.le_of_ble_eq_true rfl⟩ rfl rfl (by omega) rfl rfl rfl (Nat.le_of_ble_eq_true rfl) ⟨Nat.zero_le _, Nat.zero_le _⟩ (fun r_72 g_72 hp_72 => ?_)
                obtain ⟨e_72, xi_72, xa_72, he_72, rfl, rfl⟩ := hp_72
                rw [vX_fa hw, chkActs_fa, fa_fa, JF_fa] at he_72
                have hwr := run_wr (A := vX w xi xa) (j := z.toNat) (i := i) (nn := nn) (by omega)
                have h16 : e_72 = 0 → xi_72 16 = (runA (vX w xi xa) z.toNat i nn).2 := fun q => (he_72.2.2.2.1 q).2.1
                rw [hu _ (by omega)] at h_17
                have hen : e_72 = (chkActs (vX w xi xa) z.toNat ln i nn).1 := he_72.1
                have hcr72 := chkA_rng (A := vX w xi xa) (j := z.toNat) (l := ln) (i := i) (n := nn)
                refine z_istore [(8, .int (iI e_72)), (7, .ref (q (2 + z.toNat))), (0, .ref (q 0)), (1, .int (iI cc)), (2, .int (iI z)), (3, .int (iI ln)), (4, .int (iI i)), (5, .int (iI nn)), (6, .int (iI up))] dX7_travelFor_75 (by decide) rfl ?_
                refine z_iload (j := 0) dX7_travelFor_77 rfl ?_
                refine z_if_ne (tgt := 105) dX7_travelFor_79 (by decide) (by omega) (fun c_79 => ?_) (fun c_79 => ?_)
                · refine z_iload (j := 0) dX7_travelFor_105 rfl ?_
                  exact z_iret dX7_travelFor_107 ⟨_, _, _, (by
      obtain ⟨g1, g2, g3, g4, g5, g6⟩ := he_72
      first
        | (have h0 := c_79
           unfold chkFor; rw [if_neg (by rw [hnA]; omega), if_neg (by omega), if_pos (show (chkActs (vX w xi xa) z.toNat ln i nn).1 ≠ 0 by omega)]
           exact ⟨g1, g2, g3, fun q => absurd q c_79, fun k hk => (g5 k hk).trans (hu k (by omega)), g6⟩)
        | (have hz2 := chk_0.2 (hen.symm.trans c_79)
           unfold chkFor; rw [if_neg (by rw [hnA]; omega), if_neg (by omega), if_neg (by omega), if_neg (by omega)]
           rw [hz2] at g2
           exact ⟨c_79, g2, g3, fun q => ⟨g4 q, by omega, by omega, by omega, by omega, by omega⟩, fun k hk => (g5 k hk).trans (hu k (by omega)), g6⟩)), rfl, rfl⟩
                · have h16b := h16 c_79
                  refine z_aload_n (j := 2) dX7_travelFor_82 rfl rfl ?_
                  refine z_getf (i := 0) (ci := 7) (k := 4) (v := .ref (q 21)) dX7_travelFor_83 m_X7_travelFor_f37 in_X7_travelFor_X7 rfl (by decide) rfl (by omega) rfl rfl ?_
                  refine z_getfN (i := 21) (ci := 0) (k := 3) (v := .int (iI (xi_72 16))) dX7_travelFor_86 nwf_X7_137 in_X7_travelFor_X0 rfl (by decide) rfl (by omega) rfl rfl ?_
                  refine z_bipush dX7_travelFor_89 (by decide) ?_
                  refine z_icmp_eq (tgt := 105) dX7_travelFor_91 (by decide) (by omega) (by decide) (fun c_91 => ?_) (fun c_91 => ?_)
                  · refine z_iload (j := 0) dX7_travelFor_105 rfl ?_
                    exact z_iret dX7_travelFor_107 ⟨_, _, _, (by
      obtain ⟨g1, g2, g3, g4, g5, g6⟩ := he_72
      first
        | (have h0 := c_79
           unfold chkFor; rw [if_neg (by rw [hnA]; omega), if_neg (by omega), if_pos (show (chkActs (vX w xi xa) z.toNat ln i nn).1 ≠ 0 by omega)]
           exact ⟨g1, g2, g3, fun q => absurd q c_79, fun k hk => (g5 k hk).trans (hu k (by omega)), g6⟩)
        | (have hz2 := chk_0.2 (hen.symm.trans c_79)
           unfold chkFor; rw [if_neg (by rw [hnA]; omega), if_neg (by omega), if_neg (by omega), if_neg (by omega)]
           rw [hz2] at g2
           exact ⟨c_79, g2, g3, fun q => ⟨g4 q, by omega, by omega, by omega, by omega, by omega⟩, fun k hk => (g5 k hk).trans (hu k (by omega)), g6⟩)), rfl, rfl⟩
                  · refine z_bipush dX7_travelFor_94 (by decide) ?_
                    refine z_aload_n (j := 2) dX7_travelFor_96 rfl rfl ?_
                    refine z_getf (i := 0) (ci := 7) (k := 4) (v := .ref (q 21)) dX7_travelFor_97 m_X7_travelFor_f37 in_X7_travelFor_X7 rfl (by decide) rfl (by omega) rfl rfl ?_
                    refine z_getfN (i := 21) (ci := 0) (k := 3) (v := .int (iI (xi_72 16))) dX7_travelFor_100 nwf_X7_137 in_X7_travelFor_X0 rfl (by decide) rfl (by omega) rfl rfl ?_
                    refine z_isub dX7_travelFor_103 ?_
                    exact z_iret dX7_travelFor_104 ⟨_, _, _, (by
      obtain ⟨g1, g2, g3, g4, g5, g6⟩ := he_72
      have hz2 := chk_0.2 (hen.symm.trans c_79)
      unfold chkFor; rw [if_neg (by rw [hnA]; omega), if_neg (by omega), if_neg (by omega), if_pos (by omega)]
      rw [hz2] at g2
      exact ⟨by rw [h16b], g2, g3, fun q => absurd q (by omega), fun k hk => (g5 k hk).trans (hu k (by omega)), g6⟩), rfl, rfl⟩
              · refine z_bipush dX7_travelFor_61 (by decide) ?_
                exact z_iret dX7_travelFor_63 ⟨_, _, _, (by
      rw [hu _ (by omega)] at h_17
      unfold chkFor; rw [if_neg (by rw [hnA]; omega), if_pos (by omega)]
      exact ⟨rfl, vX_fa hw, hO0, fun q => absurd q (by decide), fun k hk => up_n (by omega), fun _ _ _ => rfl⟩), rfl, rfl⟩
      · refine z_if_eq (tgt := 61) dX7_travelFor_34 (by decide) (by decide) (fun _ => ?_) (fun h => absurd h (by decide))
        refine z_bipush dX7_travelFor_61 (by decide) ?_
        exact z_iret dX7_travelFor_63 ⟨_, _, _, (by
      rw [hu _ (by omega)] at h_17
      unfold chkFor; rw [if_neg (by rw [hnA]; omega), if_pos (by omega)]
      exact ⟨rfl, vX_fa hw, hO0, fun q => absurd q (by decide), fun k hk => up_n (by omega), fun _ _ _ => rfl⟩), rfl, rfl⟩
    · refine z_if_eq (tgt := 28) dX7_travelFor_20 (by decide) (by decide) (fun _ => ?_) (fun h => absurd h (by decide))
      refine z_iconst dX7_travelFor_28 ?_
      exact z_iret dX7_travelFor_29 ⟨_, _, _, (by
      rw [hu _ (by omega)] at h_17
      unfold chkFor; rw [if_pos (by rw [hnA]; omega)]
      exact ⟨rfl, vX_fa hw, hO0, fun q => absurd q (by decide), fun k hk => up_n (by omega), fun _ _ _ => rfl⟩), rfl, rfl⟩
  · rw [if_neg k_7]
    refine z_asnull ?_
    refine z_astoreN [(7, .null), (0, .ref (q 0)), (1, .int (iI cc)), (2, .int (iI z)), (3, .int (iI ln)), (4, .int (iI i)), (5, .int (iI nn)), (6, .int (iI up))] dX7_travelFor_10 (by decide) rfl ?_
    refine z_aload_n (j := 1) dX7_travelFor_12 rfl rfl ?_
    refine z_getf (i := 0) (ci := 7) (k := 1) (v := .ref (q (10 + w))) dX7_travelFor_13 m_X7_travelFor_f20 in_X7_travelFor_X7 rfl (by decide) rfl (by omega) rfl rfl ?_
    refine z_iload_n (j := 2) dX7_travelFor_16 rfl rfl ?_
    refine z_callVi (i := 10 + w) (ci := 2) (As := [.int (iI cc)]) (rest := []) (c_X2_has  hq hw (hO0.2.2.1 w hw) (by omega)) dX7_travelFor_17 gX7_travelFor_X2_has rfl cd_X2_has ⟨Nat.le_of_ble_eq_true rfl, Nat.le_of_ble_eq_true rfl⟩ rfl rfl (by omega) (cX_rv hw) rfl rfl (Nat.le_of_ble_eq_true rfl) ⟨Nat.zero_le _, Nat.zero_le _⟩ (fun r_17 g_17 hp_17 => ?_)
    obtain ⟨⟨h_17, rfl⟩ | ⟨h_17, rfl⟩, rfl⟩ := hp_17
    · refine z_if_eq (tgt := 28) dX7_travelFor_20 (by decide) (by decide) (fun h => absurd h (by decide)) (fun _ => ?_)
      refine z_aloadN (j := 0) dX7_travelFor_23 rfl ?_
      refine z_ifnonnullN dX7_travelFor_25 ?_
      refine z_iconst dX7_travelFor_28 ?_
      exact z_iret dX7_travelFor_29 ⟨_, _, _, (by
      rw [hu _ (by omega)] at h_17
      unfold chkFor; rw [if_pos (by rw [hnA]; omega)]
      exact ⟨rfl, vX_fa hw, hO0, fun q => absurd q (by decide), fun k hk => up_n (by omega), fun _ _ _ => rfl⟩), rfl, rfl⟩
    · refine z_if_eq (tgt := 28) dX7_travelFor_20 (by decide) (by decide) (fun _ => ?_) (fun h => absurd h (by decide))
      refine z_iconst dX7_travelFor_28 ?_
      exact z_iret dX7_travelFor_29 ⟨_, _, _, (by
      rw [hu _ (by omega)] at h_17
      unfold chkFor; rw [if_pos (by rw [hnA]; omega)]
      exact ⟨rfl, vX_fa hw, hO0, fun q => absurd q (by decide), fun k hk => up_n (by omega), fun _ _ _ => rfl⟩), rfl, rfl⟩
theorem cd_X7_travel : yX7_travel.cls = RX7 ∧ yX7_travel.cls ≠ "java/lang/invoke/MethodHandle" ∧ yX7_travel.cls ≠ "java/lang/invoke/VarHandle" ∧ (parseMethodDescriptor yX7_travel.desc).map (fun d => d.parameters.length) = some 5 := ⟨rfl, by decide +kernel, by decide +kernel, by decide +kernel⟩
theorem m_X7_plan_f37 : Cond.fieldLink RX7 37 "PoleBehind" "journey" "LPoleBehind$Journey;" ∈ wsX7_plan := List.mem_of_getElem? (i := 1) rfl
theorem in_X7_plan_X7 : ∀ w ∈ wsX70, w ∈ wsX7_plan := fun _ h => List.mem_cons_of_mem _ (List.mem_append_left _ (List.mem_append_left _ (List.mem_append_left _ (List.mem_append_right _ h))))
theorem in_X7_plan_X0 : ∀ w ∈ wsX00, w ∈ wsX7_plan := fun _ h => List.mem_cons_of_mem _ (List.mem_append_left _ (List.mem_append_left _ (List.mem_append_right _ h)))
theorem nwf_X7_140 : Cond.fieldLinkNest RX7 140 "PoleBehind$Journey" "spot" "I" "PoleBehind" ∈ NWl := List.mem_of_getElem? (i := 8) rfl
set_option maxHeartbeats 400000 in
set_option maxRecDepth 100000 in
theorem c_X7_plan {l : Launch} {D : va_G} {cI cJ cZ cR : ClassId} {q : Nat → Nat} {w d : Nat} {xi : Nat → Int} {xa : Nat → Nat → Int} (hq : qOk 31 q) {z ln i nn wh : Int} (hO : XOk w d xi xa) (hz : -2147483648 ≤ z ∧ z < 2147483648) (hl : -2147483648 ≤ ln ∧ ln < 2147483648) (hi : -2147483648 ≤ i ∧ i < 2147483648) (hnn : -2147483648 ≤ nn ∧ nn < 2147483648) (hwh : -2147483648 ≤ wh ∧ wh < 2147483648) : Cti l D vwCl (tysC cI cJ cZ cR) 31 q yX7_plan wsX7_plan ({ frames := 6, cells := 0, slots := 0, locals := 144 } : Room) [.ref (q 0), .int (iI z), .int (iI ln), .int (iI i), .int (iI nn), .int (iI wh)] (cX cI cJ cZ cR q w d xi xa) (fun (r : Int32) (g : Nat → va_E) => ∃ (e : Int) (xi' : Nat → Int) (xa' : Nat → Nat → Int), (spPlan (vX w xi xa) z ln i nn wh e (vX w xi' xa') ∧ XOk w d xi' xa') ∧ r = iI e ∧ g = (cX cI cJ cZ cR q w d xi' xa')) := by
  refine Cti.of (cc := cX7_plan) (nL := 7) (own := RX7) (ret := (some .int)) (by decide) rfl rfl hq (Nat.le_of_ble_eq_true rfl) (fun p e s m args below meth c => ?_)
  obtain ⟨⟨hw, hd⟩, hRows, hRvs, hn2, ⟨hRd, hRd2⟩, hJ, ⟨hst, hTab⟩, hfa, hsg⟩ := id hO
  have hRw := hRvs w hw
  obtain ⟨hN, hP, hK, hM, hD, hB⟩ := id hRw
  have hnA : rN (aR (vX w xi xa)) = xi (10 + w) := rfl
  have hO0 := XOk_fa (f := 0) hO (by omega)
  refine z_aload_n (j := 0) dX7_plan_0 rfl rfl ?_
  refine z_iload_n (j := 1) dX7_plan_1 rfl rfl ?_
  refine z_iload_n (j := 2) dX7_plan_2 rfl rfl ?_
  refine z_iload_n (j := 3) dX7_plan_3 rfl rfl ?_
  refine z_iload (j := 4) dX7_plan_4 rfl ?_
  have hj_22 : ∀ (okb : Int), ((okb = 1 ∧ (0 ≤ wh ∧ wh ≤ 2)) ∨ (okb = 0 ∧ ¬ (0 ≤ wh ∧ wh ≤ 2))) → ZMi l D vwCl (tysC cI cJ cZ cR) 31 q ({ frames := 6, cells := 0, slots := 0, locals := 144 } : Room) cX7_plan 7 RX7 wsX7_plan (some .int) (fun (r : Int32) (g : Nat → va_E) => ∃ (e : Int) (xi' : Nat → Int) (xa' : Nat → Nat → Int), (spPlan (vX w xi xa) z ln i nn wh e (vX w xi' xa') ∧ XOk w d xi' xa') ∧ r = iI e ∧ g = (cX cI cJ cZ cR q w d xi' xa')) p e s m args below meth c (cX cI cJ cZ cR q w d xi xa) 22 [(0, .ref (q 0)), (1, .int (iI z)), (2, .int (iI ln)), (3, .int (iI i)), (4, .int (iI nn)), (5, .int (iI wh))] [.int (iI okb), .int (iI nn), .int (iI i), .int (iI ln), .int (iI z), .ref (q 0)] := by
    intro okb hok
    refine z_callVi (i := 0) (ci := 7) (As := [.int (iI z), .int (iI ln), .int (iI i), .int (iI nn), .int (iI okb)]) (rest := []) (c_X7_travel  hq hO (by omega) (by omega) (by omega) (by omega) (by omega)) dX7_plan_22 gX7_plan_X7_travel rfl cd_X7_travel ⟨Nat.le_of_ble_eq_true rfl, Nat.le_of_ble_eq_true rfl⟩ rfl rfl (by omega) rfl rfl rfl (Nat.le_of_ble_eq_true rfl) ⟨Nat.zero_le _, Nat.zero_le _⟩ (fun r_22 g_22 hp_22 => ?_)
    obtain ⟨e_22, xi_22, xa_22, he_22, rfl, rfl⟩ := hp_22
    have hcr22 := chkP_rng (A := vX w xi xa) (s := z) (l := ln) (i := i) (n := nn) (p := okb = 1)
    refine z_istore [(6, .int (iI e_22)), (0, .ref (q 0)), (1, .int (iI z)), (2, .int (iI ln)), (3, .int (iI i)), (4, .int (iI nn)), (5, .int (iI wh))] dX7_plan_25 (by decide) rfl ?_
    refine z_iload (j := 0) dX7_plan_27 rfl ?_
    refine z_if_eq (tgt := 35) dX7_plan_29 (by decide) (by omega) (fun c_29 => ?_) (fun c_29 => ?_)
    · obtain ⟨hj_22, hzz, hn18, hok1, hn2w⟩ := he_22.2.2.2.1 c_29
      obtain ⟨j15, j16, j17, j12⟩ := id hj_22
      have hrl := run_rng (j := z.toNat) (i := i) hO (by omega) nn.toNat
      have hwr := run_wr (A := vX w xi xa) (j := z.toNat) (i := i) (nn := nn) hn18
      have j17b : (runA (vX w xi xa) z.toNat i nn).2 = -9 → xi_22 17 = (runS (aR (vX w xi xa)) (actG (vX w xi xa) z.toNat i) (aP (vX w xi xa)) nn.toNat).1 := fun q => (j17 q).1
      have hck : (chkPlan (vX w xi xa) z ln i nn (0 ≤ wh ∧ wh ≤ 2)).1 = 0 := by rw [chkPlan_iff (q := okb = 1) (by omega), ← he_22.1]; exact c_29
      have hck2 := chkP_0 hck
      have hvv : vX w xi_22 xa_22 = sFa (vX w xi xa) 0 := by rw [he_22.2.1, ← hck2, chkPlan_iff (p := 0 ≤ wh ∧ wh ≤ 2) (q := okb = 1) (by omega)]
      refine z_iload (j := 6) dX7_plan_35 rfl ?_
      refine z_iconst dX7_plan_37 ?_
      refine z_icmp_ne (tgt := 49) dX7_plan_38 (by decide) (by omega) (by decide) (fun c_38 => ?_) (fun c_38 => ?_)
      · refine z_aload_n (j := 1) dX7_plan_49 rfl rfl ?_
        refine z_getf (i := 0) (ci := 7) (k := 4) (v := .ref (q 21)) dX7_plan_50 m_X7_plan_f37 in_X7_plan_X7 rfl (by decide) rfl (by omega) rfl rfl ?_
        refine z_getfN (i := 21) (ci := 0) (k := 3) (v := .int (iI (xi_22 16))) dX7_plan_53 nwf_X7_137 in_X7_plan_X0 rfl (by decide) rfl (by omega) rfl rfl ?_
        refine z_bipush dX7_plan_56 (by decide) ?_
        refine z_icmp_eq (tgt := 72) dX7_plan_58 (by decide) (by omega) (by decide) (fun c_58 => ?_) (fun c_58 => ?_)
        · refine z_iload (j := 6) dX7_plan_72 rfl ?_
          refine z_if_ne (tgt := 90) dX7_plan_74 (by decide) (by omega) (fun c_74 => ?_) (fun c_74 => ?_)
          · refine z_aload_n (j := 1) dX7_plan_90 rfl rfl ?_
            refine z_getf (i := 0) (ci := 7) (k := 4) (v := .ref (q 21)) dX7_plan_91 m_X7_plan_f37 in_X7_plan_X7 rfl (by decide) rfl (by omega) rfl rfl ?_
            refine z_getfN (i := 21) (ci := 0) (k := 4) (v := .int (iI (xi_22 17))) dX7_plan_94 nwf_X7_140 in_X7_plan_X0 rfl (by decide) rfl (by omega) rfl rfl ?_
            refine z_callSi (As := [.int (iI (xi_22 17))]) (rest := []) (c_X7_paceOf  hq (by have := j17b (by omega); omega)) dX7_plan_97 gX7_plan_X7_paceOf rfl cd_X7_paceOf ⟨Nat.le_of_ble_eq_true rfl, Nat.le_of_ble_eq_true rfl⟩ rfl rfl rfl (Nat.le_of_ble_eq_true rfl) ⟨Nat.zero_le _, Nat.zero_le _⟩ (fun r_97 g_97 hp_97 => ?_)
            obtain ⟨⟨_, rfl, rfl⟩, rfl⟩ := hp_97
            exact z_iret dX7_plan_100 ⟨_, _, _, (by
      have hsp := j17b (by omega)
      unfold spPlan; rw [if_neg (by omega), if_neg (by omega), if_neg (by omega)]
      first | rw [if_pos (by omega), hsp] | rw [if_neg (by omega), hsp]
      exact ⟨⟨hvv, rfl⟩, he_22.2.2.1⟩), rfl, rfl⟩
          · refine z_aload_n (j := 1) dX7_plan_77 rfl rfl ?_
            refine z_getf (i := 0) (ci := 7) (k := 4) (v := .ref (q 21)) dX7_plan_78 m_X7_plan_f37 in_X7_plan_X7 rfl (by decide) rfl (by omega) rfl rfl ?_
            refine z_getfN (i := 21) (ci := 0) (k := 4) (v := .int (iI (xi_22 17))) dX7_plan_81 nwf_X7_140 in_X7_plan_X0 rfl (by decide) rfl (by omega) rfl rfl ?_
            refine z_callSi (As := [.int (iI (xi_22 17))]) (rest := []) (c_X7_cellOf  hq (by have := j17b (by omega); omega)) dX7_plan_84 gX7_plan_X7_cellOf rfl cd_X7_cellOf ⟨Nat.le_of_ble_eq_true rfl, Nat.le_of_ble_eq_true rfl⟩ rfl rfl rfl (Nat.le_of_ble_eq_true rfl) ⟨Nat.zero_le _, Nat.zero_le _⟩ (fun r_84 g_84 hp_84 => ?_)
            obtain ⟨⟨_, rfl, rfl⟩, rfl⟩ := hp_84
            refine z_goto (tgt := 100) dX7_plan_87 (by decide) ?_
            exact z_iret dX7_plan_100 ⟨_, _, _, (by
      have hsp := j17b (by omega)
      unfold spPlan; rw [if_neg (by omega), if_neg (by omega), if_neg (by omega)]
      first | rw [if_pos (by omega), hsp] | rw [if_neg (by omega), hsp]
      exact ⟨⟨hvv, rfl⟩, he_22.2.2.1⟩), rfl, rfl⟩
        · refine z_bipush dX7_plan_61 (by decide) ?_
          refine z_aload_n (j := 1) dX7_plan_63 rfl rfl ?_
          refine z_getf (i := 0) (ci := 7) (k := 4) (v := .ref (q 21)) dX7_plan_64 m_X7_plan_f37 in_X7_plan_X7 rfl (by decide) rfl (by omega) rfl rfl ?_
          refine z_getfN (i := 21) (ci := 0) (k := 3) (v := .int (iI (xi_22 16))) dX7_plan_67 nwf_X7_137 in_X7_plan_X0 rfl (by decide) rfl (by omega) rfl rfl ?_
          refine z_isub dX7_plan_70 ?_
          exact z_iret dX7_plan_71 ⟨_, _, _, (by
      unfold spPlan; rw [if_neg (by omega), if_neg (by omega), if_pos (by omega)]
      exact ⟨⟨hvv, by rw [j16]⟩, he_22.2.2.1⟩), rfl, rfl⟩
      · refine z_aload_n (j := 1) dX7_plan_41 rfl rfl ?_
        refine z_getf (i := 0) (ci := 7) (k := 4) (v := .ref (q 21)) dX7_plan_42 m_X7_plan_f37 in_X7_plan_X7 rfl (by decide) rfl (by omega) rfl rfl ?_
        refine z_getfN (i := 21) (ci := 0) (k := 3) (v := .int (iI (xi_22 16))) dX7_plan_45 nwf_X7_137 in_X7_plan_X0 rfl (by decide) rfl (by omega) rfl rfl ?_
        exact z_iret dX7_plan_48 ⟨_, _, _, (by
      unfold spPlan; rw [if_neg (by omega), if_pos (by omega)]
      exact ⟨⟨hvv, j16⟩, he_22.2.2.1⟩), rfl, rfl⟩
    · refine z_iload (j := 0) dX7_plan_32 rfl ?_
      exact z_iret dX7_plan_34 ⟨_, _, _, (by
      have hne : (chkPlan (vX w xi xa) z ln i nn (0 ≤ wh ∧ wh ≤ 2)).1 ≠ 0 := by rw [chkPlan_iff (q := okb = 1) (by omega), ← he_22.1]; exact c_29
      unfold spPlan; rw [if_pos hne, chkPlan_iff (p := 0 ≤ wh ∧ wh ≤ 2) (q := okb = 1) (by omega)]
      exact ⟨⟨he_22.1, he_22.2.1⟩, he_22.2.2.1⟩), rfl, rfl⟩
  refine z_iload (j := 5) dX7_plan_6 rfl ?_
  refine z_if_lt (tgt := 21) dX7_plan_8 (by decide) (by omega) (fun c_8 => ?_) (fun c_8 => ?_)
  · refine z_iconst dX7_plan_21 ?_
    exact z_sub [(0, .ref (q 0)), (1, .int (iI z)), (2, .int (iI ln)), (3, .int (iI i)), (4, .int (iI nn)), (5, .int (iI wh))] [0, 1, 2, 3, 4, 5] rfl (hj_22 0 (by omega))
  · refine z_iload (j := 5) dX7_plan_11 rfl ?_
    refine z_iconst dX7_plan_13 ?_
    refine z_icmp_gt (tgt := 21) dX7_plan_14 (by decide) (by omega) (by decide) (fun c_14 => ?_) (fun c_14 => ?_)
    · refine z_iconst dX7_plan_21 ?_
      exact z_sub [(0, .ref (q 0)), (1, .int (iI z)), (2, .int (iI ln)), (3, .int (iI i)), (4, .int (iI nn)), (5, .int (iI wh))] [0, 1, 2, 3, 4, 5] rfl (hj_22 0 (by omega))
    · refine z_iconst dX7_plan_17 ?_
      refine z_goto (tgt := 22) dX7_plan_18 (by decide) ?_
      exact z_sub [(0, .ref (q 0)), (1, .int (iI z)), (2, .int (iI ln)), (3, .int (iI i)), (4, .int (iI nn)), (5, .int (iI wh))] [0, 1, 2, 3, 4, 5] rfl (hj_22 1 (by omega))
theorem m_X7_dry_C152 : Cond.constantLong RX7 152 (lI (-9223372036854775808)) ∈ wsX7_dry := List.mem_of_getElem? (i := 2) (by decide +kernel)
theorem m_X7_dry_f37 : Cond.fieldLink RX7 37 "PoleBehind" "journey" "LPoleBehind$Journey;" ∈ wsX7_dry := List.mem_of_getElem? (i := 1) rfl
theorem in_X7_dry_X7 : ∀ w ∈ wsX70, w ∈ wsX7_dry := fun _ h => List.mem_cons_of_mem _ (List.mem_append_left _ (List.mem_append_left _ (List.mem_append_left _ (List.mem_append_right _ h))))
theorem in_X7_dry_X0 : ∀ w ∈ wsX00, w ∈ wsX7_dry := fun _ h => List.mem_cons_of_mem _ (List.mem_append_left _ (List.mem_append_left _ (List.mem_append_right _ h)))
theorem m_X7_dry_f20 : Cond.fieldLink RX7 20 "PoleBehind" "water" "LPoleBehind$River;" ∈ wsX7_dry := List.mem_of_getElem? (i := 3) rfl
theorem cd_X0_dryParts : yX0_dryParts.cls = RX0 ∧ yX0_dryParts.cls ≠ "java/lang/invoke/MethodHandle" ∧ yX0_dryParts.cls ≠ "java/lang/invoke/VarHandle" ∧ (parseMethodDescriptor yX0_dryParts.desc).map (fun d => d.parameters.length) = some 3 := ⟨rfl, by decide +kernel, by decide +kernel, by decide +kernel⟩
theorem cd_X7_inLeastTerms : yX7_inLeastTerms.cls ≠ "java/lang/invoke/MethodHandle" ∧ yX7_inLeastTerms.cls ≠ "java/lang/invoke/VarHandle" ∧ (parseMethodDescriptor yX7_inLeastTerms.desc).map (fun d => d.parameters.length) = some 3 := ⟨by decide +kernel, by decide +kernel, by decide +kernel⟩
theorem cd_X7_isUpperOrLower : yX7_isUpperOrLower.cls ≠ "java/lang/invoke/MethodHandle" ∧ yX7_isUpperOrLower.cls ≠ "java/lang/invoke/VarHandle" ∧ (parseMethodDescriptor yX7_isUpperOrLower.desc).map (fun d => d.parameters.length) = some 1 := ⟨by decide +kernel, by decide +kernel, by decide +kernel⟩
set_option maxHeartbeats 400000 in
set_option maxRecDepth 100000 in
theorem c_X7_dry {l : Launch} {D : va_G} {cI cJ cZ cR : ClassId} {q : Nat → Nat} {w d : Nat} {xi : Nat → Int} {xa : Nat → Nat → Int} (hq : qOk 31 q) {z ln i nn wh : Int} (hO : XOk w d xi xa) (hz : -2147483648 ≤ z ∧ z < 2147483648) (hl : -2147483648 ≤ ln ∧ ln < 2147483648) (hi : -2147483648 ≤ i ∧ i < 2147483648) (hnn : -2147483648 ≤ nn ∧ nn < 2147483648) (hwh : -2147483648 ≤ wh ∧ wh < 2147483648) : Ctl l D vwCl (tysC cI cJ cZ cR) 31 q yX7_dry wsX7_dry ({ frames := 6, cells := 0, slots := 0, locals := 144 } : Room) [.ref (q 0), .int (iI z), .int (iI ln), .int (iI i), .int (iI nn), .int (iI wh)] (cX cI cJ cZ cR q w d xi xa) (fun (r : Int64) (g : Nat → va_E) => ∃ (e : Int) (xi' : Nat → Int) (xa' : Nat → Nat → Int), (spDry (vX w xi xa) z ln i nn wh e (vX w xi' xa') ∧ XOk w d xi' xa') ∧ r = lI e ∧ g = (cX cI cJ cZ cR q w d xi' xa')) := by
  refine Ctl.of (cc := cX7_dry) (nL := 7) (own := RX7) (ret := (some .long)) (by decide) rfl rfl hq (Nat.le_of_ble_eq_true rfl) (fun p e s m args below meth c => ?_)
  obtain ⟨⟨hw, hd⟩, hRows, hRvs, hn2, ⟨hRd, hRd2⟩, hJ, ⟨hst, hTab⟩, hfa, hsg⟩ := id hO
  have hRw := hRvs w hw
  obtain ⟨hN, hP, hK, hM, hD, hB⟩ := id hRw
  have hnA : rN (aR (vX w xi xa)) = xi (10 + w) := rfl
  have hO0 := XOk_fa (f := 0) hO (by omega)
  refine z_aload_n (j := 0) dX7_dry_0 rfl rfl ?_
  refine z_iload_n (j := 1) dX7_dry_1 rfl rfl ?_
  refine z_iload_n (j := 2) dX7_dry_2 rfl rfl ?_
  refine z_iload_n (j := 3) dX7_dry_3 rfl rfl ?_
  refine z_iload (j := 4) dX7_dry_4 rfl ?_
  have hj_11 : ∀ (okb : Int), ((okb = 1 ∧ (wh = 0 ∨ wh = 1)) ∨ (okb = 0 ∧ ¬ (wh = 0 ∨ wh = 1))) → ZMl l D vwCl (tysC cI cJ cZ cR) 31 q ({ frames := 6, cells := 0, slots := 0, locals := 144 } : Room) cX7_dry 7 RX7 wsX7_dry (some .long) (fun (r : Int64) (g : Nat → va_E) => ∃ (e : Int) (xi' : Nat → Int) (xa' : Nat → Nat → Int), (spDry (vX w xi xa) z ln i nn wh e (vX w xi' xa') ∧ XOk w d xi' xa') ∧ r = lI e ∧ g = (cX cI cJ cZ cR q w d xi' xa')) p e s m args below meth c (cX cI cJ cZ cR q w d xi xa) 11 [(0, .ref (q 0)), (1, .int (iI z)), (2, .int (iI ln)), (3, .int (iI i)), (4, .int (iI nn)), (5, .int (iI wh))] [.int (iI okb), .int (iI nn), .int (iI i), .int (iI ln), .int (iI z), .ref (q 0)] := by
    intro okb hok
    refine z_callVi (i := 0) (ci := 7) (As := [.int (iI z), .int (iI ln), .int (iI i), .int (iI nn), .int (iI okb)]) (rest := []) (c_X7_travel  hq hO (by omega) (by omega) (by omega) (by omega) (by omega)) dX7_dry_11 gX7_dry_X7_travel rfl cd_X7_travel ⟨Nat.le_of_ble_eq_true rfl, Nat.le_of_ble_eq_true rfl⟩ rfl rfl (by omega) rfl rfl rfl (Nat.le_of_ble_eq_true rfl) ⟨Nat.zero_le _, Nat.zero_le _⟩ (fun r_11 g_11 hp_11 => ?_)
    obtain ⟨e_11, xi_11, xa_11, he_11, rfl, rfl⟩ := hp_11
    have hcr11 := chkP_rng (A := vX w xi xa) (s := z) (l := ln) (i := i) (n := nn) (p := okb = 1)
    refine z_istore [(6, .int (iI e_11)), (0, .ref (q 0)), (1, .int (iI z)), (2, .int (iI ln)), (3, .int (iI i)), (4, .int (iI nn)), (5, .int (iI wh))] dX7_dry_14 (by decide) rfl ?_
    refine z_iload (j := 0) dX7_dry_16 rfl ?_
    refine z_if_ne (tgt := 33) dX7_dry_18 (by decide) (by omega) (fun c_18 => ?_) (fun c_18 => ?_)
    · refine z_ldc2 dX7_dry_33 m_X7_dry_C152 ?_
      exact z_lret dX7_dry_36 ⟨_, _, _, (by
      unfold spDry
      first
        | (rw [if_pos (Or.inl (show (chkPlan (vX w xi xa) z ln i nn (wh = 0 ∨ wh = 1)).1 ≠ 0 by rw [chkPlan_iff (q := okb = 1) (by omega), ← he_11.1]; exact c_18)), chkPlan_iff (p := wh = 0 ∨ wh = 1) (q := okb = 1) (by omega)]
           exact ⟨⟨he_11.2.1, rfl⟩, he_11.2.2.1⟩)
        | (rw [if_pos (Or.inr (by omega)), hck2]
           exact ⟨⟨hvv, rfl⟩, he_11.2.2.1⟩)), rfl, rfl⟩
    · obtain ⟨hj_11, hzz, hn18, hok1, hn2w⟩ := he_11.2.2.2.1 c_18
      obtain ⟨j15, j16, j17, j12⟩ := id hj_11
      have hrl := run_rng (j := z.toNat) (i := i) hO (by omega) nn.toNat
      have hwr := run_wr (A := vX w xi xa) (j := z.toNat) (i := i) (nn := nn) hn18
      have j17b : (runA (vX w xi xa) z.toNat i nn).2 = -9 → xi_11 17 = (runS (aR (vX w xi xa)) (actG (vX w xi xa) z.toNat i) (aP (vX w xi xa)) nn.toNat).1 := fun q => (j17 q).1
      have hck : (chkPlan (vX w xi xa) z ln i nn (wh = 0 ∨ wh = 1)).1 = 0 := by rw [chkPlan_iff (q := okb = 1) (by omega), ← he_11.1]; exact c_18
      have hck2 := chkP_0 hck
      have hvv : vX w xi_11 xa_11 = sFa (vX w xi xa) 0 := by rw [he_11.2.1, ← hck2, chkPlan_iff (p := wh = 0 ∨ wh = 1) (q := okb = 1) (by omega)]
      refine z_aload_n (j := 1) dX7_dry_21 rfl rfl ?_
      refine z_getf (i := 0) (ci := 7) (k := 4) (v := .ref (q 21)) dX7_dry_22 m_X7_dry_f37 in_X7_dry_X7 rfl (by decide) rfl (by omega) rfl rfl ?_
      refine z_getfN (i := 21) (ci := 0) (k := 3) (v := .int (iI (xi_11 16))) dX7_dry_25 nwf_X7_137 in_X7_dry_X0 rfl (by decide) rfl (by omega) rfl rfl ?_
      refine z_bipush dX7_dry_28 (by decide) ?_
      refine z_icmp_eq (tgt := 37) dX7_dry_30 (by decide) (by omega) (by decide) (fun c_30 => ?_) (fun c_30 => ?_)
      · refine z_aload_n (j := 1) dX7_dry_37 rfl rfl ?_
        refine z_getf (i := 0) (ci := 7) (k := 4) (v := .ref (q 21)) dX7_dry_38 m_X7_dry_f37 in_X7_dry_X7 rfl (by decide) rfl (by omega) rfl rfl ?_
        refine z_aload_n (j := 1) dX7_dry_41 rfl rfl ?_
        refine z_getf (i := 0) (ci := 7) (k := 1) (v := .ref (q (10 + w))) dX7_dry_42 m_X7_dry_f20 in_X7_dry_X7 rfl (by decide) rfl (by omega) rfl rfl ?_
        refine z_iconst dX7_dry_45 ?_
        refine z_iconst dX7_dry_46 ?_
        refine z_callVl (i := 21) (ci := 0) (As := [.ref (q (10 + w)), .int (iI (-1)), .int (iI 0)]) (rest := []) (c_X0_dryParts  hq hw (he_11.2.2.1.2.2.1 w hw) he_11.2.2.1.2.2.2.2.2.1.1 he_11.2.2.1.2.2.2.2.2.1.2.1 (fun k hk => by have g := JF_cells hO (by omega) hj_11 (by omega) k hk; rw [he_11.2.2.2.2.1 _ (by omega)]; exact g) (by omega) (by omega)) dX7_dry_47 gX7_dry_X0_dryParts rfl cd_X0_dryParts ⟨Nat.le_of_ble_eq_true rfl, Nat.le_of_ble_eq_true rfl⟩ rfl rfl (by omega) rfl rfl rfl (Nat.le_of_ble_eq_true rfl) ⟨Nat.zero_le _, Nat.zero_le _⟩ (fun r_47 g_47 hp_47 => ?_)
        obtain ⟨⟨e_47, he_47, rfl⟩, rfl⟩ := hp_47
        have hRe : rvX xi_11 xa_11 w = aR (vX w xi xa) := rvX_eq (he_11.2.2.2.2.1 _ (by omega)) (he_11.2.2.2.2.2 _ (by omega) (by omega)) (he_11.2.2.2.2.2 _ (by omega) (by omega)) (he_11.2.2.2.2.2 _ (by omega) (by omega)) (he_11.2.2.2.2.2 _ (by omega) (by omega))
        rw [dry_is hRe hj_11 hn18.1 (by omega)] at he_47
        have hdr := dryA_rng (j := z.toNat) (i := i) (nn := nn) hO (-1) (show (0 : Int) ≤ 0 ∧ (0 : Int) ≤ 9 by omega)
        rw [← he_47] at hdr
        have h10 := pow10_le (show nn.toNat ≤ 18 by omega)
        refine z_iload (j := 5) dX7_dry_50 rfl ?_
        refine z_callSl (As := [.int (iI nn)]) (rest := [.long (lI e_47)]) (c_X7_tenTo  hq (by omega)) dX7_dry_52 gX7_dry_X7_tenTo rfl cd_X7_tenTo ⟨Nat.le_of_ble_eq_true rfl, Nat.le_of_ble_eq_true rfl⟩ rfl rfl rfl (Nat.le_of_ble_eq_true rfl) ⟨Nat.zero_le _, Nat.zero_le _⟩ (fun r_52 g_52 hp_52 => ?_)
        obtain ⟨⟨_, rfl, rfl⟩, rfl⟩ := hp_52
        refine z_iload (j := 6) dX7_dry_55 rfl ?_
        refine z_callSl (As := [.long (lI e_47), .long (lI (10 ^ nn.toNat)), .int (iI wh)]) (rest := []) (c_X7_inLeastTerms  hq (by omega) (by omega) (by omega)) dX7_dry_57 gX7_dry_X7_inLeastTerms rfl cd_X7_inLeastTerms ⟨Nat.le_of_ble_eq_true rfl, Nat.le_of_ble_eq_true rfl⟩ rfl rfl rfl (Nat.le_of_ble_eq_true rfl) ⟨Nat.zero_le _, Nat.zero_le _⟩ (fun r_57 g_57 hp_57 => ?_)
        obtain ⟨⟨e_57, he_57, rfl⟩, rfl⟩ := hp_57
        exact z_lret dX7_dry_60 ⟨_, _, _, (by
      unfold spDry; rw [if_neg (by omega), hck2, ← he_47]
      exact ⟨⟨hvv, he_57⟩, he_11.2.2.1⟩), rfl, rfl⟩
      · refine z_ldc2 dX7_dry_33 m_X7_dry_C152 ?_
        exact z_lret dX7_dry_36 ⟨_, _, _, (by
      unfold spDry
      first
        | (rw [if_pos (Or.inl (show (chkPlan (vX w xi xa) z ln i nn (wh = 0 ∨ wh = 1)).1 ≠ 0 by rw [chkPlan_iff (q := okb = 1) (by omega), ← he_11.1]; exact c_18)), chkPlan_iff (p := wh = 0 ∨ wh = 1) (q := okb = 1) (by omega)]
           exact ⟨⟨he_11.2.1, rfl⟩, he_11.2.2.1⟩)
        | (rw [if_pos (Or.inr (by omega)), hck2]
           exact ⟨⟨hvv, rfl⟩, he_11.2.2.1⟩)), rfl, rfl⟩
  refine z_iload (j := 5) dX7_dry_6 rfl ?_
  refine z_callSi (As := [.int (iI wh)]) (rest := [.int (iI nn), .int (iI i), .int (iI ln), .int (iI z), .ref (q 0)]) (c_X7_isUpperOrLower  hq (by omega)) dX7_dry_8 gX7_dry_X7_isUpperOrLower rfl cd_X7_isUpperOrLower ⟨Nat.le_of_ble_eq_true rfl, Nat.le_of_ble_eq_true rfl⟩ rfl rfl rfl (Nat.le_of_ble_eq_true rfl) ⟨Nat.zero_le _, Nat.zero_le _⟩ (fun r_8 g_8 hp_8 => ?_)
  obtain ⟨⟨h_8, rfl⟩ | ⟨h_8, rfl⟩, rfl⟩ := hp_8
  · exact z_sub [(0, .ref (q 0)), (1, .int (iI z)), (2, .int (iI ln)), (3, .int (iI i)), (4, .int (iI nn)), (5, .int (iI wh))] [0, 1, 2, 3, 4, 5] rfl (hj_11 1 (by omega))
  · exact z_sub [(0, .ref (q 0)), (1, .int (iI z)), (2, .int (iI ln)), (3, .int (iI i)), (4, .int (iI nn)), (5, .int (iI wh))] [0, 1, 2, 3, 4, 5] rfl (hj_11 0 (by omega))
theorem m_X7_odds_C152 : Cond.constantLong RX7 152 (lI (-9223372036854775808)) ∈ wsX7_odds := List.mem_of_getElem? (i := 2) (by decide +kernel)
theorem m_X7_odds_f37 : Cond.fieldLink RX7 37 "PoleBehind" "journey" "LPoleBehind$Journey;" ∈ wsX7_odds := List.mem_of_getElem? (i := 1) rfl
theorem in_X7_odds_X7 : ∀ w ∈ wsX70, w ∈ wsX7_odds := fun _ h => List.mem_cons_of_mem _ (List.mem_append_left _ (List.mem_append_left _ (List.mem_append_left _ (List.mem_append_right _ h))))
theorem in_X7_odds_X0 : ∀ w ∈ wsX00, w ∈ wsX7_odds := fun _ h => List.mem_cons_of_mem _ (List.mem_append_left _ (List.mem_append_left _ (List.mem_append_right _ h)))
theorem cd_X0_poledCells : yX0_poledCells.cls = RX0 ∧ yX0_poledCells.cls ≠ "java/lang/invoke/MethodHandle" ∧ yX0_poledCells.cls ≠ "java/lang/invoke/VarHandle" ∧ (parseMethodDescriptor yX0_poledCells.desc).map (fun d => d.parameters.length) = some 0 := ⟨rfl, by decide +kernel, by decide +kernel, by decide +kernel⟩
set_option maxHeartbeats 400000 in
set_option maxRecDepth 100000 in
theorem c_X7_odds {l : Launch} {D : va_G} {cI cJ cZ cR : ClassId} {q : Nat → Nat} {w d : Nat} {xi : Nat → Int} {xa : Nat → Nat → Int} (hq : qOk 31 q) {z ln i nn wh : Int} (hO : XOk w d xi xa) (hz : -2147483648 ≤ z ∧ z < 2147483648) (hl : -2147483648 ≤ ln ∧ ln < 2147483648) (hi : -2147483648 ≤ i ∧ i < 2147483648) (hnn : -2147483648 ≤ nn ∧ nn < 2147483648) (hwh : -2147483648 ≤ wh ∧ wh < 2147483648) : Ctl l D vwCl (tysC cI cJ cZ cR) 31 q yX7_odds wsX7_odds ({ frames := 6, cells := 0, slots := 0, locals := 144 } : Room) [.ref (q 0), .int (iI z), .int (iI ln), .int (iI i), .int (iI nn), .int (iI wh)] (cX cI cJ cZ cR q w d xi xa) (fun (r : Int64) (g : Nat → va_E) => ∃ (e : Int) (xi' : Nat → Int) (xa' : Nat → Nat → Int), (spOdds (vX w xi xa) z ln i nn wh e (vX w xi' xa') ∧ XOk w d xi' xa') ∧ r = lI e ∧ g = (cX cI cJ cZ cR q w d xi' xa')) := by
  refine Ctl.of (cc := cX7_odds) (nL := 7) (own := RX7) (ret := (some .long)) (by decide) rfl rfl hq (Nat.le_of_ble_eq_true rfl) (fun p e s m args below meth c => ?_)
  obtain ⟨⟨hw, hd⟩, hRows, hRvs, hn2, ⟨hRd, hRd2⟩, hJ, ⟨hst, hTab⟩, hfa, hsg⟩ := id hO
  have hRw := hRvs w hw
  obtain ⟨hN, hP, hK, hM, hD, hB⟩ := id hRw
  have hnA : rN (aR (vX w xi xa)) = xi (10 + w) := rfl
  have hO0 := XOk_fa (f := 0) hO (by omega)
  refine z_aload_n (j := 0) dX7_odds_0 rfl rfl ?_
  refine z_iload_n (j := 1) dX7_odds_1 rfl rfl ?_
  refine z_iload_n (j := 2) dX7_odds_2 rfl rfl ?_
  refine z_iload_n (j := 3) dX7_odds_3 rfl rfl ?_
  refine z_iload (j := 4) dX7_odds_4 rfl ?_
  have hj_11 : ∀ (okb : Int), ((okb = 1 ∧ (wh = 0 ∨ wh = 1)) ∨ (okb = 0 ∧ ¬ (wh = 0 ∨ wh = 1))) → ZMl l D vwCl (tysC cI cJ cZ cR) 31 q ({ frames := 6, cells := 0, slots := 0, locals := 144 } : Room) cX7_odds 7 RX7 wsX7_odds (some .long) (fun (r : Int64) (g : Nat → va_E) => ∃ (e : Int) (xi' : Nat → Int) (xa' : Nat → Nat → Int), (spOdds (vX w xi xa) z ln i nn wh e (vX w xi' xa') ∧ XOk w d xi' xa') ∧ r = lI e ∧ g = (cX cI cJ cZ cR q w d xi' xa')) p e s m args below meth c (cX cI cJ cZ cR q w d xi xa) 11 [(0, .ref (q 0)), (1, .int (iI z)), (2, .int (iI ln)), (3, .int (iI i)), (4, .int (iI nn)), (5, .int (iI wh))] [.int (iI okb), .int (iI nn), .int (iI i), .int (iI ln), .int (iI z), .ref (q 0)] := by
    intro okb hok
    refine z_callVi (i := 0) (ci := 7) (As := [.int (iI z), .int (iI ln), .int (iI i), .int (iI nn), .int (iI okb)]) (rest := []) (c_X7_travel  hq hO (by omega) (by omega) (by omega) (by omega) (by omega)) dX7_odds_11 gX7_odds_X7_travel rfl cd_X7_travel ⟨Nat.le_of_ble_eq_true rfl, Nat.le_of_ble_eq_true rfl⟩ rfl rfl (by omega) rfl rfl rfl (Nat.le_of_ble_eq_true rfl) ⟨Nat.zero_le _, Nat.zero_le _⟩ (fun r_11 g_11 hp_11 => ?_)
    obtain ⟨e_11, xi_11, xa_11, he_11, rfl, rfl⟩ := hp_11
    have hcr11 := chkP_rng (A := vX w xi xa) (s := z) (l := ln) (i := i) (n := nn) (p := okb = 1)
    refine z_istore [(6, .int (iI e_11)), (0, .ref (q 0)), (1, .int (iI z)), (2, .int (iI ln)), (3, .int (iI i)), (4, .int (iI nn)), (5, .int (iI wh))] dX7_odds_14 (by decide) rfl ?_
    refine z_iload (j := 0) dX7_odds_16 rfl ?_
    refine z_if_ne (tgt := 33) dX7_odds_18 (by decide) (by omega) (fun c_18 => ?_) (fun c_18 => ?_)
    · refine z_ldc2 dX7_odds_33 m_X7_odds_C152 ?_
      exact z_lret dX7_odds_36 ⟨_, _, _, (by
      unfold spOdds
      first
        | (rw [if_pos (Or.inl (show (chkPlan (vX w xi xa) z ln i nn (wh = 0 ∨ wh = 1)).1 ≠ 0 by rw [chkPlan_iff (q := okb = 1) (by omega), ← he_11.1]; exact c_18)), chkPlan_iff (p := wh = 0 ∨ wh = 1) (q := okb = 1) (by omega)]
           exact ⟨⟨he_11.2.1, rfl⟩, he_11.2.2.1⟩)
        | (rw [if_pos (Or.inr (by omega)), hck2]
           exact ⟨⟨hvv, rfl⟩, he_11.2.2.1⟩)), rfl, rfl⟩
    · obtain ⟨hj_11, hzz, hn18, hok1, hn2w⟩ := he_11.2.2.2.1 c_18
      obtain ⟨j15, j16, j17, j12⟩ := id hj_11
      have hrl := run_rng (j := z.toNat) (i := i) hO (by omega) nn.toNat
      have hwr := run_wr (A := vX w xi xa) (j := z.toNat) (i := i) (nn := nn) hn18
      have j17b : (runA (vX w xi xa) z.toNat i nn).2 = -9 → xi_11 17 = (runS (aR (vX w xi xa)) (actG (vX w xi xa) z.toNat i) (aP (vX w xi xa)) nn.toNat).1 := fun q => (j17 q).1
      have hck : (chkPlan (vX w xi xa) z ln i nn (wh = 0 ∨ wh = 1)).1 = 0 := by rw [chkPlan_iff (q := okb = 1) (by omega), ← he_11.1]; exact c_18
      have hck2 := chkP_0 hck
      have hvv : vX w xi_11 xa_11 = sFa (vX w xi xa) 0 := by rw [he_11.2.1, ← hck2, chkPlan_iff (p := wh = 0 ∨ wh = 1) (q := okb = 1) (by omega)]
      refine z_aload_n (j := 1) dX7_odds_21 rfl rfl ?_
      refine z_getf (i := 0) (ci := 7) (k := 4) (v := .ref (q 21)) dX7_odds_22 m_X7_odds_f37 in_X7_odds_X7 rfl (by decide) rfl (by omega) rfl rfl ?_
      refine z_getfN (i := 21) (ci := 0) (k := 3) (v := .int (iI (xi_11 16))) dX7_odds_25 nwf_X7_137 in_X7_odds_X0 rfl (by decide) rfl (by omega) rfl rfl ?_
      refine z_bipush dX7_odds_28 (by decide) ?_
      refine z_icmp_eq (tgt := 37) dX7_odds_30 (by decide) (by omega) (by decide) (fun c_30 => ?_) (fun c_30 => ?_)
      · refine z_lconst (z := 1) dX7_odds_37 (by decide) ?_
        refine z_lconst (z := 1) dX7_odds_38 (by decide) ?_
        refine z_aload_n (j := 1) dX7_odds_39 rfl rfl ?_
        refine z_getf (i := 0) (ci := 7) (k := 4) (v := .ref (q 21)) dX7_odds_40 m_X7_odds_f37 in_X7_odds_X7 rfl (by decide) rfl (by omega) rfl rfl ?_
        refine z_callVi (i := 21) (ci := 0) (As := []) (rest := [.long (lI 1), .long (lI 1)]) (c_X0_poledCells  hq he_11.2.2.1.2.2.2.2.2.1.1 he_11.2.2.1.2.2.2.2.2.1.2.1 he_11.2.2.1.2.2.2.2.2.1.2.2) dX7_odds_43 gX7_odds_X0_poledCells rfl cd_X0_poledCells ⟨Nat.le_of_ble_eq_true rfl, Nat.le_of_ble_eq_true rfl⟩ rfl rfl (by omega) rfl rfl rfl (Nat.le_of_ble_eq_true rfl) ⟨Nat.zero_le _, Nat.zero_le _⟩ (fun r_43 g_43 hp_43 => ?_)
        obtain ⟨⟨e_43, he_43, rfl⟩, rfl⟩ := hp_43
        rw [pol_is hj_11 hn18.1 (by omega)] at he_43
        have hpl := popN_le (polM (actG (vX w xi xa) z.toNat i) (cellA (vX w xi xa) z.toNat i) nn.toNat)
        have hp2 : (0 : Int) < ((2 ^ e_43.toNat : Nat) : Int) ∧ ((2 ^ e_43.toNat : Nat) : Int) ≤ 65536 := by
          have g1 : 2 ^ e_43.toNat ≤ 2 ^ 16 := Nat.pow_le_pow_right (by decide) (by omega)
          have g2 : 0 < 2 ^ e_43.toNat := Nat.pow_pos (by decide)
          have g3 : 2 ^ 16 = 65536 := by decide
          omega
        refine z_lshl (v := lI ((2 ^ e_43.toNat : Nat) : Int)) dX7_odds_46 (bl_shl1 (by omega)) ?_
        refine z_iload (j := 6) dX7_odds_47 rfl ?_
        refine z_callSl (As := [.long (lI 1), .long (lI ((2 ^ e_43.toNat : Nat) : Int)), .int (iI wh)]) (rest := []) (c_X7_inLeastTerms  hq (by omega) (by omega) (by omega)) dX7_odds_49 gX7_odds_X7_inLeastTerms rfl cd_X7_inLeastTerms ⟨Nat.le_of_ble_eq_true rfl, Nat.le_of_ble_eq_true rfl⟩ rfl rfl rfl (Nat.le_of_ble_eq_true rfl) ⟨Nat.zero_le _, Nat.zero_le _⟩ (fun r_49 g_49 hp_49 => ?_)
        obtain ⟨⟨e_49, he_49, rfl⟩, rfl⟩ := hp_49
        exact z_lret dX7_odds_52 ⟨_, _, _, (by
      unfold spOdds; rw [if_neg (by omega), hck2]
      refine ⟨⟨hvv, ?_⟩, he_11.2.2.1⟩
      rw [he_49]
      show leastT 1 _ wh = _
      rw [leastT_one, he_43]
      simp only [Int.toNat_natCast, Int.natCast_pow]
      rfl), rfl, rfl⟩
      · refine z_ldc2 dX7_odds_33 m_X7_odds_C152 ?_
        exact z_lret dX7_odds_36 ⟨_, _, _, (by
      unfold spOdds
      first
        | (rw [if_pos (Or.inl (show (chkPlan (vX w xi xa) z ln i nn (wh = 0 ∨ wh = 1)).1 ≠ 0 by rw [chkPlan_iff (q := okb = 1) (by omega), ← he_11.1]; exact c_18)), chkPlan_iff (p := wh = 0 ∨ wh = 1) (q := okb = 1) (by omega)]
           exact ⟨⟨he_11.2.1, rfl⟩, he_11.2.2.1⟩)
        | (rw [if_pos (Or.inr (by omega)), hck2]
           exact ⟨⟨hvv, rfl⟩, he_11.2.2.1⟩)), rfl, rfl⟩
  refine z_iload (j := 5) dX7_odds_6 rfl ?_
  refine z_callSi (As := [.int (iI wh)]) (rest := [.int (iI nn), .int (iI i), .int (iI ln), .int (iI z), .ref (q 0)]) (c_X7_isUpperOrLower  hq (by omega)) dX7_odds_8 gX7_odds_X7_isUpperOrLower rfl cd_X7_isUpperOrLower ⟨Nat.le_of_ble_eq_true rfl, Nat.le_of_ble_eq_true rfl⟩ rfl rfl rfl (Nat.le_of_ble_eq_true rfl) ⟨Nat.zero_le _, Nat.zero_le _⟩ (fun r_8 g_8 hp_8 => ?_)
  obtain ⟨⟨h_8, rfl⟩ | ⟨h_8, rfl⟩, rfl⟩ := hp_8
  · exact z_sub [(0, .ref (q 0)), (1, .int (iI z)), (2, .int (iI ln)), (3, .int (iI i)), (4, .int (iI nn)), (5, .int (iI wh))] [0, 1, 2, 3, 4, 5] rfl (hj_11 1 (by omega))
  · exact z_sub [(0, .ref (q 0)), (1, .int (iI z)), (2, .int (iI ln)), (3, .int (iI i)), (4, .int (iI nn)), (5, .int (iI wh))] [0, 1, 2, 3, 4, 5] rfl (hj_11 0 (by omega))
theorem cd_X7_travelFor : yX7_travelFor.cls = RX7 ∧ yX7_travelFor.cls ≠ "java/lang/invoke/MethodHandle" ∧ yX7_travelFor.cls ≠ "java/lang/invoke/VarHandle" ∧ (parseMethodDescriptor yX7_travelFor.desc).map (fun d => d.parameters.length) = some 6 := ⟨rfl, by decide +kernel, by decide +kernel, by decide +kernel⟩
theorem m_X7_kinds_f20 : Cond.fieldLink RX7 20 "PoleBehind" "water" "LPoleBehind$River;" ∈ wsX7_kinds := List.mem_of_getElem? (i := 1) rfl
theorem in_X7_kinds_X7 : ∀ w ∈ wsX70, w ∈ wsX7_kinds := fun _ h => List.mem_cons_of_mem _ (List.mem_append_left _ (List.mem_append_left _ (List.mem_append_left _ (List.mem_append_right _ h))))
theorem m_X7_kinds_f37 : Cond.fieldLink RX7 37 "PoleBehind" "journey" "LPoleBehind$Journey;" ∈ wsX7_kinds := List.mem_of_getElem? (i := 2) rfl
set_option maxHeartbeats 400000 in
set_option maxRecDepth 100000 in
theorem c_X7_kinds {l : Launch} {D : va_G} {cI cJ cZ cR : ClassId} {q : Nat → Nat} {w d : Nat} {xi : Nat → Int} {xa : Nat → Nat → Int} (hq : qOk 31 q) {cc z ln i nn up : Int} (hO : XOk w d xi xa) (hc : -2147483648 ≤ cc ∧ cc < 2147483648) (hz : -2147483648 ≤ z ∧ z < 2147483648) (hl : -2147483648 ≤ ln ∧ ln < 2147483648) (hi : -2147483648 ≤ i ∧ i < 2147483648) (hnn : -2147483648 ≤ nn ∧ nn < 2147483648) (hup : -2147483648 ≤ up ∧ up < 2147483648) : Cti l D vwCl (tysC cI cJ cZ cR) 31 q yX7_kinds wsX7_kinds ({ frames := 6, cells := 0, slots := 0, locals := 146 } : Room) [.ref (q 0), .int (iI cc), .int (iI z), .int (iI ln), .int (iI i), .int (iI nn), .int (iI up)] (cX cI cJ cZ cR q w d xi xa) (fun (r : Int32) (g : Nat → va_E) => ∃ (e : Int) (xi' : Nat → Int) (xa' : Nat → Nat → Int), (spKinds (vX w xi xa) cc z ln i nn up e (vX w xi' xa') ∧ XOk w d xi' xa') ∧ r = iI e ∧ g = (cX cI cJ cZ cR q w d xi' xa')) := by
  refine Cti.of (cc := cX7_kinds) (nL := 11) (own := RX7) (ret := (some .int)) (by decide) rfl rfl hq (Nat.le_of_ble_eq_true rfl) (fun p e s m args below meth c => ?_)
  obtain ⟨⟨hw, hd⟩, hRows, hRvs, hn2, ⟨hRd, hRd2⟩, hJ, ⟨hst, hTab⟩, hfa, hsg⟩ := id hO
  have hRw := hRvs w hw
  obtain ⟨hN, hP, hK, hM, hD, hB⟩ := id hRw
  have hnA : rN (aR (vX w xi xa)) = xi (10 + w) := rfl
  have hO0 := XOk_fa (f := 0) hO (by omega)
  refine z_aload_n (j := 0) dX7_kinds_0 rfl rfl ?_
  refine z_iload_n (j := 1) dX7_kinds_1 rfl rfl ?_
  refine z_iload_n (j := 2) dX7_kinds_2 rfl rfl ?_
  refine z_iload_n (j := 3) dX7_kinds_3 rfl rfl ?_
  refine z_iload (j := 4) dX7_kinds_4 rfl ?_
  refine z_iload (j := 5) dX7_kinds_6 rfl ?_
  refine z_iload (j := 6) dX7_kinds_8 rfl ?_
  refine z_callVi (i := 0) (ci := 7) (As := [.int (iI cc), .int (iI z), .int (iI ln), .int (iI i), .int (iI nn), .int (iI up)]) (rest := []) (c_X7_travelFor  hq hO (by omega) (by omega) (by omega) (by omega) (by omega) (by omega)) dX7_kinds_10 gX7_kinds_X7_travelFor rfl cd_X7_travelFor ⟨Nat.le_of_ble_eq_true rfl, Nat.le_of_ble_eq_true rfl⟩ rfl rfl (by omega) rfl rfl rfl (Nat.le_of_ble_eq_true rfl) ⟨Nat.zero_le _, Nat.zero_le _⟩ (fun r_10 g_10 hp_10 => ?_)
  obtain ⟨e_10, xi_10, xa_10, he_10, rfl, rfl⟩ := hp_10
  have hcrT := chkF_rng (A := vX w xi xa) (c := cc) (s := z) (l := ln) (i := i) (n := nn) (u := up)
  refine z_istore [(7, .int (iI e_10)), (0, .ref (q 0)), (1, .int (iI cc)), (2, .int (iI z)), (3, .int (iI ln)), (4, .int (iI i)), (5, .int (iI nn)), (6, .int (iI up))] dX7_kinds_13 (by decide) rfl ?_
  refine z_iload (j := 0) dX7_kinds_15 rfl ?_
  refine z_if_eq (tgt := 23) dX7_kinds_17 (by decide) (by omega) (fun c_17 => ?_) (fun c_17 => ?_)
  · obtain ⟨hjt, hrun, hzz, hn9, hupr, hcr⟩ := he_10.2.2.2.1 c_17
    have fx := he_10.2.2.2.2.1
    have fa := he_10.2.2.2.2.2
    have hRt := he_10.2.2.1.2.2.1 w hw
    have hRe : rvX xi_10 xa_10 w = aR (vX w xi xa) := rvX_eq (fx _ (by omega)) (fa _ (by omega) (by omega)) (fa _ (by omega) (by omega)) (fa _ (by omega) (by omega)) (fa _ (by omega) (by omega))
    have hnx : xi_10 (10 + w) = xi (10 + w) := fx _ (by omega)
    have t8 : xa_10 (8 + w) cc.toNat = rD (aR (vX w xi xa)) cc.toNat := by rw [fa _ (by omega) (by omega)]; exact (nrm_in (by omega)).symm
    have t6 : xa_10 (6 + w) cc.toNat = rM (aR (vX w xi xa)) cc.toNat := by rw [fa _ (by omega) (by omega)]; exact (nrm_in (by omega)).symm
    have t4 : xa_10 (4 + w) cc.toNat = rK (aR (vX w xi xa)) cc.toNat := by rw [fa _ (by omega) (by omega)]; exact (nrm_in (by omega)).symm
    have htm : 0 ≤ xa_10 (6 + w) cc.toNat ∧ xa_10 (6 + w) cc.toNat ≤ 9 := hRt.2.2.2.1 _
    have htk : 0 ≤ xa_10 (4 + w) cc.toNat ∧ xa_10 (4 + w) cc.toNat ≤ 2 := hRt.2.2.1 _
    refine z_iconst dX7_kinds_23 ?_
    refine z_istore [(8, .int (iI 0)), (7, .int (iI e_10)), (0, .ref (q 0)), (1, .int (iI cc)), (2, .int (iI z)), (3, .int (iI ln)), (4, .int (iI i)), (5, .int (iI nn)), (6, .int (iI up))] dX7_kinds_24 (by decide) rfl ?_
    refine z_iconst dX7_kinds_26 ?_
    refine z_istore [(9, .int (iI 0)), (8, .int (iI 0)), (7, .int (iI e_10)), (0, .ref (q 0)), (1, .int (iI cc)), (2, .int (iI z)), (3, .int (iI ln)), (4, .int (iI i)), (5, .int (iI nn)), (6, .int (iI up))] dX7_kinds_27 (by decide) rfl ?_
    have hl_29 : ∀ (N_29 : Nat) (u : Int) (mk : Nat), (20 - u).toNat < N_29 → (0 ≤ u ∧ u ≤ 3) → (mk = orM (fun k => dryA (vX w xi xa) z.toNat i nn cc (holdK (rD (aR (vX w xi xa)) cc.toNat) (k : Int) (rM (aR (vX w xi xa)) cc.toNat)) = up) u.toNat) → ZMi l D vwCl (tysC cI cJ cZ cR) 31 q ({ frames := 6, cells := 0, slots := 0, locals := 146 } : Room) cX7_kinds 11 RX7 wsX7_kinds (some .int) (fun (r : Int32) (g : Nat → va_E) => ∃ (e : Int) (xi' : Nat → Int) (xa' : Nat → Nat → Int), (spKinds (vX w xi xa) cc z ln i nn up e (vX w xi' xa') ∧ XOk w d xi' xa') ∧ r = iI e ∧ g = (cX cI cJ cZ cR q w d xi' xa')) p e s m args below meth c (cX cI cJ cZ cR q w d xi_10 xa_10) 29 [(9, .int (iI u)), (8, .int (iI ((mk : Nat) : Int))), (7, .int (iI e_10)), (0, .ref (q 0)), (1, .int (iI cc)), (2, .int (iI z)), (3, .int (iI ln)), (4, .int (iI i)), (5, .int (iI nn)), (6, .int (iI up))] [] := by
      intro N_29
      induction N_29 with
      | zero => intro u mk hm; exact absurd hm (Nat.not_lt_zero _)
      | succ N_29 ih_29 =>
        intro u mk hm_29 hu hmk
        refine z_iload (j := 0) dX7_kinds_29 rfl ?_
        refine z_iconst dX7_kinds_31 ?_
        refine z_icmp_gt (tgt := 91) dX7_kinds_32 (by decide) (by omega) (by decide) (fun c_32 => ?_) (fun c_32 => ?_)
        · refine z_iload (j := 1) dX7_kinds_91 rfl ?_
          exact z_iret dX7_kinds_93 ⟨_, _, _, (by
      have hc0 : (chkFor (vX w xi xa) cc z ln i nn up).1 = 0 := by rw [← he_10.1]; exact c_17
      unfold spKinds; rw [if_neg (by omega)]
      refine ⟨⟨he_10.2.1, ?_⟩, he_10.2.2.1⟩
      rw [hmk, show u.toNat = 3 by omega]), rfl, rfl⟩
        · refine z_aload_n (j := 3) dX7_kinds_35 rfl rfl ?_
          refine z_getf (i := 0) (ci := 7) (k := 1) (v := .ref (q (10 + w))) dX7_kinds_36 m_X7_kinds_f20 in_X7_kinds_X7 rfl (by decide) rfl (by omega) rfl rfl ?_
          refine z_iload_n (j := 4) dX7_kinds_39 rfl rfl ?_
          refine z_iload (j := 0) dX7_kinds_40 rfl ?_
          refine z_aload_n (j := 3) dX7_kinds_42 rfl rfl ?_
          refine z_getf (i := 0) (ci := 7) (k := 1) (v := .ref (q (10 + w))) dX7_kinds_43 m_X7_kinds_f20 in_X7_kinds_X7 rfl (by decide) rfl (by omega) rfl rfl ?_
          refine z_iload_n (j := 4) dX7_kinds_46 rfl rfl ?_
          refine z_callVi (i := 10 + w) (ci := 2) (As := [.int (iI cc)]) (rest := [.int (iI u), .int (iI cc), .ref (q (10 + w))]) (c_X2_mudOf  hq hw hRt (by omega)) dX7_kinds_47 gX7_kinds_X2_mudOf rfl cd_X2_mudOf ⟨Nat.le_of_ble_eq_true rfl, Nat.le_of_ble_eq_true rfl⟩ rfl rfl (by omega) (cX_rv hw) rfl rfl (Nat.le_of_ble_eq_true rfl) ⟨Nat.zero_le _, Nat.zero_le _⟩ (fun r_47 g_47 hp_47 => ?_)
          obtain ⟨⟨e_47, he_47, rfl⟩, rfl⟩ := hp_47
          refine z_callVi (i := 10 + w) (ci := 2) (As := [.int (iI cc), .int (iI u), .int (iI e_47)]) (rest := []) (c_X2_holdsIf  hq hw hRt (by omega) (by omega) (by rw [he_47, if_pos (by omega)]; exact htm)) dX7_kinds_50 gX7_kinds_X2_holdsIf rfl cd_X2_holdsIf ⟨Nat.le_of_ble_eq_true rfl, Nat.le_of_ble_eq_true rfl⟩ rfl rfl (by omega) (cX_rv hw) rfl rfl (Nat.le_of_ble_eq_true rfl) ⟨Nat.zero_le _, Nat.zero_le _⟩ (fun r_50 g_50 hp_50 => ?_)
          obtain ⟨⟨e_50, he_50, rfl⟩, rfl⟩ := hp_50
          have hkk : e_50 = holdK (rD (aR (vX w xi xa)) cc.toNat) u (rM (aR (vX w xi xa)) cc.toNat) ∧ 0 ≤ e_50 ∧ e_50 ≤ 9 := by
            have g0 : e_50 = holdK (rD (aR (vX w xi xa)) cc.toNat) u (rM (aR (vX w xi xa)) cc.toNat) := by
              rw [he_50, if_pos (by omega), he_47, if_pos (by omega), t8, t6]
            exact ⟨g0, by rw [g0]; exact holdK_rng (by rw [← t6]; exact htm)⟩
          refine z_istore [(10, .int (iI e_50)), (9, .int (iI u)), (8, .int (iI ((mk : Nat) : Int))), (7, .int (iI e_10)), (0, .ref (q 0)), (1, .int (iI cc)), (2, .int (iI z)), (3, .int (iI ln)), (4, .int (iI i)), (5, .int (iI nn)), (6, .int (iI up))] dX7_kinds_53 (by decide) rfl ?_
          refine z_aload_n (j := 4) dX7_kinds_55 rfl rfl ?_
          refine z_getf (i := 0) (ci := 7) (k := 4) (v := .ref (q 21)) dX7_kinds_56 m_X7_kinds_f37 in_X7_kinds_X7 rfl (by decide) rfl (by omega) rfl rfl ?_
          refine z_aload_n (j := 4) dX7_kinds_59 rfl rfl ?_
          refine z_getf (i := 0) (ci := 7) (k := 1) (v := .ref (q (10 + w))) dX7_kinds_60 m_X7_kinds_f20 in_X7_kinds_X7 rfl (by decide) rfl (by omega) rfl rfl ?_
          refine z_iload_n (j := 5) dX7_kinds_63 rfl rfl ?_
          refine z_iload (j := 0) dX7_kinds_64 rfl ?_
          refine z_callVl (i := 21) (ci := 0) (As := [.ref (q (10 + w)), .int (iI cc), .int (iI e_50)]) (rest := []) (c_X0_dryParts  hq hw hRt he_10.2.2.1.2.2.2.2.2.1.1 he_10.2.2.1.2.2.2.2.2.1.2.1 (fun k hk => by have g := JF_cells hO (by omega) hjt hrun k hk; rw [fx _ (by omega)]; exact g) (by omega) (by omega)) dX7_kinds_66 gX7_kinds_X0_dryParts rfl cd_X0_dryParts ⟨Nat.le_of_ble_eq_true rfl, Nat.le_of_ble_eq_true rfl⟩ rfl rfl (by omega) rfl rfl rfl (Nat.le_of_ble_eq_true rfl) ⟨Nat.zero_le _, Nat.zero_le _⟩ (fun r_66 g_66 hp_66 => ?_)
          obtain ⟨⟨e_66, he_66, rfl⟩, rfl⟩ := hp_66
          rw [dry_is hRe hjt hn9.1 hrun, hkk.1] at he_66
          have hdr := dryA_rng (j := z.toNat) (i := i) (nn := nn) hO cc hkk.2
          rw [hkk.1, ← he_66] at hdr
          have h10 := pow10_le (show nn.toNat ≤ 18 by omega)
          refine z_iload (j := 10) dX7_kinds_69 rfl ?_
          refine z_i2l dX7_kinds_71 (by omega) ?_
          refine z_lcmp dX7_kinds_72 (by omega) (by omega) (fun r_72 hr_72 => ?_)
          refine z_if_ne (tgt := 85) dX7_kinds_73 (by decide) (by omega) (fun c_73 => ?_) (fun c_73 => ?_)
          · refine z_iinc (j := 1) [(9, .int (iI (u + 1))), (10, .int (iI e_50)), (8, .int (iI ((mk : Nat) : Int))), (7, .int (iI e_10)), (0, .ref (q 0)), (1, .int (iI cc)), (2, .int (iI z)), (3, .int (iI ln)), (4, .int (iI i)), (5, .int (iI nn)), (6, .int (iI up))] dX7_kinds_85 rfl (by decide) rfl ?_
            refine z_goto (tgt := 29) dX7_kinds_88 (by decide) ?_
            exact z_sub [(9, .int (iI (u + 1))), (8, .int (iI ((mk : Nat) : Int))), (7, .int (iI e_10)), (0, .ref (q 0)), (1, .int (iI cc)), (2, .int (iI z)), (3, .int (iI ln)), (4, .int (iI i)), (5, .int (iI nn)), (6, .int (iI up))] [0, 2, 3, 4, 5, 6, 7, 8, 9, 10] rfl (ih_29 (u + 1) mk (by omega) (by omega) (by
            rw [stepN hu.1, orM]
            rw [show ((u.toNat : Nat) : Int) = u by omega]
            first | rw [if_pos (show dryA (vX w xi xa) z.toNat i nn cc (holdK (rD (aR (vX w xi xa)) cc.toNat) u (rM (aR (vX w xi xa)) cc.toNat)) = up by omega), hmk] | rw [if_neg (show ¬ dryA (vX w xi xa) z.toNat i nn cc (holdK (rD (aR (vX w xi xa)) cc.toNat) u (rM (aR (vX w xi xa)) cc.toNat)) = up by omega), hmk]))
          · refine z_iload (j := 2) dX7_kinds_76 rfl ?_
            refine z_iconst dX7_kinds_78 ?_
            refine z_iload (j := 1) dX7_kinds_79 rfl ?_
            refine z_ishl (iI ((2 ^ u.toNat : Nat) : Int)) dX7_kinds_81 (bi_shl (by omega)) ?_
            refine z_ior (iI ((mk ||| 2 ^ u.toNat : Nat) : Int)) dX7_kinds_82 (bi_or _ _) ?_
            refine z_istore [(8, .int (iI ((mk ||| 2 ^ u.toNat : Nat) : Int))), (10, .int (iI e_50)), (9, .int (iI u)), (7, .int (iI e_10)), (0, .ref (q 0)), (1, .int (iI cc)), (2, .int (iI z)), (3, .int (iI ln)), (4, .int (iI i)), (5, .int (iI nn)), (6, .int (iI up))] dX7_kinds_83 (by decide) rfl ?_
            refine z_iinc (j := 2) [(9, .int (iI (u + 1))), (8, .int (iI ((mk ||| 2 ^ u.toNat : Nat) : Int))), (10, .int (iI e_50)), (7, .int (iI e_10)), (0, .ref (q 0)), (1, .int (iI cc)), (2, .int (iI z)), (3, .int (iI ln)), (4, .int (iI i)), (5, .int (iI nn)), (6, .int (iI up))] dX7_kinds_85 rfl (by decide) rfl ?_
            refine z_goto (tgt := 29) dX7_kinds_88 (by decide) ?_
            exact z_sub [(9, .int (iI (u + 1))), (8, .int (iI ((mk ||| 2 ^ u.toNat : Nat) : Int))), (7, .int (iI e_10)), (0, .ref (q 0)), (1, .int (iI cc)), (2, .int (iI z)), (3, .int (iI ln)), (4, .int (iI i)), (5, .int (iI nn)), (6, .int (iI up))] [0, 1, 3, 4, 5, 6, 7, 8, 9, 10] rfl (ih_29 (u + 1) (mk ||| 2 ^ u.toNat) (by omega) (by omega) (by
            rw [stepN hu.1, orM]
            rw [show ((u.toNat : Nat) : Int) = u by omega]
            first | rw [if_pos (show dryA (vX w xi xa) z.toNat i nn cc (holdK (rD (aR (vX w xi xa)) cc.toNat) u (rM (aR (vX w xi xa)) cc.toNat)) = up by omega), hmk] | rw [if_neg (show ¬ dryA (vX w xi xa) z.toNat i nn cc (holdK (rD (aR (vX w xi xa)) cc.toNat) u (rM (aR (vX w xi xa)) cc.toNat)) = up by omega), hmk]))
    exact z_sub [(9, .int (iI 0)), (8, .int (iI 0)), (7, .int (iI e_10)), (0, .ref (q 0)), (1, .int (iI cc)), (2, .int (iI z)), (3, .int (iI ln)), (4, .int (iI i)), (5, .int (iI nn)), (6, .int (iI up))] [0, 1, 2, 3, 4, 5, 6, 7, 8, 9] rfl (hl_29 _ 0 0 (Nat.lt_succ_self _) (by omega) (rfl))
  · refine z_iload (j := 0) dX7_kinds_20 rfl ?_
    exact z_iret dX7_kinds_22 ⟨_, _, _, (by
      unfold spKinds; rw [if_pos (show (chkFor (vX w xi xa) cc z ln i nn up).1 ≠ 0 by rw [← he_10.1]; exact c_17)]
      exact ⟨⟨he_10.2.1, he_10.1⟩, he_10.2.2.1⟩), rfl, rfl⟩
theorem m_X7_muds_f20 : Cond.fieldLink RX7 20 "PoleBehind" "water" "LPoleBehind$River;" ∈ wsX7_muds := List.mem_of_getElem? (i := 1) rfl
theorem in_X7_muds_X7 : ∀ w ∈ wsX70, w ∈ wsX7_muds := fun _ h => List.mem_cons_of_mem _ (List.mem_append_left _ (List.mem_append_left _ (List.mem_append_left _ (List.mem_append_right _ h))))
theorem m_X7_muds_f37 : Cond.fieldLink RX7 37 "PoleBehind" "journey" "LPoleBehind$Journey;" ∈ wsX7_muds := List.mem_of_getElem? (i := 2) rfl
set_option maxHeartbeats 400000 in
set_option maxRecDepth 100000 in
theorem c_X7_muds {l : Launch} {D : va_G} {cI cJ cZ cR : ClassId} {q : Nat → Nat} {w d : Nat} {xi : Nat → Int} {xa : Nat → Nat → Int} (hq : qOk 31 q) {cc z ln i nn up : Int} (hO : XOk w d xi xa) (hc : -2147483648 ≤ cc ∧ cc < 2147483648) (hz : -2147483648 ≤ z ∧ z < 2147483648) (hl : -2147483648 ≤ ln ∧ ln < 2147483648) (hi : -2147483648 ≤ i ∧ i < 2147483648) (hnn : -2147483648 ≤ nn ∧ nn < 2147483648) (hup : -2147483648 ≤ up ∧ up < 2147483648) : Cti l D vwCl (tysC cI cJ cZ cR) 31 q yX7_muds wsX7_muds ({ frames := 6, cells := 0, slots := 0, locals := 146 } : Room) [.ref (q 0), .int (iI cc), .int (iI z), .int (iI ln), .int (iI i), .int (iI nn), .int (iI up)] (cX cI cJ cZ cR q w d xi xa) (fun (r : Int32) (g : Nat → va_E) => ∃ (e : Int) (xi' : Nat → Int) (xa' : Nat → Nat → Int), (spMuds (vX w xi xa) cc z ln i nn up e (vX w xi' xa') ∧ XOk w d xi' xa') ∧ r = iI e ∧ g = (cX cI cJ cZ cR q w d xi' xa')) := by
  refine Cti.of (cc := cX7_muds) (nL := 11) (own := RX7) (ret := (some .int)) (by decide) rfl rfl hq (Nat.le_of_ble_eq_true rfl) (fun p e s m args below meth c => ?_)
  obtain ⟨⟨hw, hd⟩, hRows, hRvs, hn2, ⟨hRd, hRd2⟩, hJ, ⟨hst, hTab⟩, hfa, hsg⟩ := id hO
  have hRw := hRvs w hw
  obtain ⟨hN, hP, hK, hM, hD, hB⟩ := id hRw
  have hnA : rN (aR (vX w xi xa)) = xi (10 + w) := rfl
  have hO0 := XOk_fa (f := 0) hO (by omega)
  refine z_aload_n (j := 0) dX7_muds_0 rfl rfl ?_
  refine z_iload_n (j := 1) dX7_muds_1 rfl rfl ?_
  refine z_iload_n (j := 2) dX7_muds_2 rfl rfl ?_
  refine z_iload_n (j := 3) dX7_muds_3 rfl rfl ?_
  refine z_iload (j := 4) dX7_muds_4 rfl ?_
  refine z_iload (j := 5) dX7_muds_6 rfl ?_
  refine z_iload (j := 6) dX7_muds_8 rfl ?_
  refine z_callVi (i := 0) (ci := 7) (As := [.int (iI cc), .int (iI z), .int (iI ln), .int (iI i), .int (iI nn), .int (iI up)]) (rest := []) (c_X7_travelFor  hq hO (by omega) (by omega) (by omega) (by omega) (by omega) (by omega)) dX7_muds_10 gX7_muds_X7_travelFor rfl cd_X7_travelFor ⟨Nat.le_of_ble_eq_true rfl, Nat.le_of_ble_eq_true rfl⟩ rfl rfl (by omega) rfl rfl rfl (Nat.le_of_ble_eq_true rfl) ⟨Nat.zero_le _, Nat.zero_le _⟩ (fun r_10 g_10 hp_10 => ?_)
  obtain ⟨e_10, xi_10, xa_10, he_10, rfl, rfl⟩ := hp_10
  have hcrT := chkF_rng (A := vX w xi xa) (c := cc) (s := z) (l := ln) (i := i) (n := nn) (u := up)
  refine z_istore [(7, .int (iI e_10)), (0, .ref (q 0)), (1, .int (iI cc)), (2, .int (iI z)), (3, .int (iI ln)), (4, .int (iI i)), (5, .int (iI nn)), (6, .int (iI up))] dX7_muds_13 (by decide) rfl ?_
  refine z_iload (j := 0) dX7_muds_15 rfl ?_
  refine z_if_eq (tgt := 23) dX7_muds_17 (by decide) (by omega) (fun c_17 => ?_) (fun c_17 => ?_)
  · obtain ⟨hjt, hrun, hzz, hn9, hupr, hcr⟩ := he_10.2.2.2.1 c_17
    have fx := he_10.2.2.2.2.1
    have fa := he_10.2.2.2.2.2
    have hRt := he_10.2.2.1.2.2.1 w hw
    have hRe : rvX xi_10 xa_10 w = aR (vX w xi xa) := rvX_eq (fx _ (by omega)) (fa _ (by omega) (by omega)) (fa _ (by omega) (by omega)) (fa _ (by omega) (by omega)) (fa _ (by omega) (by omega))
    have hnx : xi_10 (10 + w) = xi (10 + w) := fx _ (by omega)
    have t8 : xa_10 (8 + w) cc.toNat = rD (aR (vX w xi xa)) cc.toNat := by rw [fa _ (by omega) (by omega)]; exact (nrm_in (by omega)).symm
    have t6 : xa_10 (6 + w) cc.toNat = rM (aR (vX w xi xa)) cc.toNat := by rw [fa _ (by omega) (by omega)]; exact (nrm_in (by omega)).symm
    have t4 : xa_10 (4 + w) cc.toNat = rK (aR (vX w xi xa)) cc.toNat := by rw [fa _ (by omega) (by omega)]; exact (nrm_in (by omega)).symm
    have htm : 0 ≤ xa_10 (6 + w) cc.toNat ∧ xa_10 (6 + w) cc.toNat ≤ 9 := hRt.2.2.2.1 _
    have htk : 0 ≤ xa_10 (4 + w) cc.toNat ∧ xa_10 (4 + w) cc.toNat ≤ 2 := hRt.2.2.1 _
    refine z_iconst dX7_muds_23 ?_
    refine z_istore [(8, .int (iI 0)), (7, .int (iI e_10)), (0, .ref (q 0)), (1, .int (iI cc)), (2, .int (iI z)), (3, .int (iI ln)), (4, .int (iI i)), (5, .int (iI nn)), (6, .int (iI up))] dX7_muds_24 (by decide) rfl ?_
    refine z_iconst dX7_muds_26 ?_
    refine z_istore [(9, .int (iI 0)), (8, .int (iI 0)), (7, .int (iI e_10)), (0, .ref (q 0)), (1, .int (iI cc)), (2, .int (iI z)), (3, .int (iI ln)), (4, .int (iI i)), (5, .int (iI nn)), (6, .int (iI up))] dX7_muds_27 (by decide) rfl ?_
    have hl_29 : ∀ (N_29 : Nat) (u : Int) (mk : Nat), (20 - u).toNat < N_29 → (0 ≤ u ∧ u ≤ 10) → (mk = orM (fun k => dryA (vX w xi xa) z.toNat i nn cc (holdK (rD (aR (vX w xi xa)) cc.toNat) (rK (aR (vX w xi xa)) cc.toNat) (k : Int)) = up) u.toNat) → ZMi l D vwCl (tysC cI cJ cZ cR) 31 q ({ frames := 6, cells := 0, slots := 0, locals := 146 } : Room) cX7_muds 11 RX7 wsX7_muds (some .int) (fun (r : Int32) (g : Nat → va_E) => ∃ (e : Int) (xi' : Nat → Int) (xa' : Nat → Nat → Int), (spMuds (vX w xi xa) cc z ln i nn up e (vX w xi' xa') ∧ XOk w d xi' xa') ∧ r = iI e ∧ g = (cX cI cJ cZ cR q w d xi' xa')) p e s m args below meth c (cX cI cJ cZ cR q w d xi_10 xa_10) 29 [(9, .int (iI u)), (8, .int (iI ((mk : Nat) : Int))), (7, .int (iI e_10)), (0, .ref (q 0)), (1, .int (iI cc)), (2, .int (iI z)), (3, .int (iI ln)), (4, .int (iI i)), (5, .int (iI nn)), (6, .int (iI up))] [] := by
      intro N_29
      induction N_29 with
      | zero => intro u mk hm; exact absurd hm (Nat.not_lt_zero _)
      | succ N_29 ih_29 =>
        intro u mk hm_29 hu hmk
        refine z_iload (j := 0) dX7_muds_29 rfl ?_
        refine z_bipush dX7_muds_31 (by decide) ?_
        refine z_icmp_gt (tgt := 92) dX7_muds_33 (by decide) (by omega) (by decide) (fun c_33 => ?_) (fun c_33 => ?_)
        · refine z_iload (j := 1) dX7_muds_92 rfl ?_
          exact z_iret dX7_muds_94 ⟨_, _, _, (by
      have hc0 : (chkFor (vX w xi xa) cc z ln i nn up).1 = 0 := by rw [← he_10.1]; exact c_17
      unfold spMuds; rw [if_neg (by omega)]
      refine ⟨⟨he_10.2.1, ?_⟩, he_10.2.2.1⟩
      rw [hmk, show u.toNat = 10 by omega]), rfl, rfl⟩
        · refine z_aload_n (j := 3) dX7_muds_36 rfl rfl ?_
          refine z_getf (i := 0) (ci := 7) (k := 1) (v := .ref (q (10 + w))) dX7_muds_37 m_X7_muds_f20 in_X7_muds_X7 rfl (by decide) rfl (by omega) rfl rfl ?_
          refine z_iload_n (j := 4) dX7_muds_40 rfl rfl ?_
          refine z_aload_n (j := 3) dX7_muds_41 rfl rfl ?_
          refine z_getf (i := 0) (ci := 7) (k := 1) (v := .ref (q (10 + w))) dX7_muds_42 m_X7_muds_f20 in_X7_muds_X7 rfl (by decide) rfl (by omega) rfl rfl ?_
          refine z_iload_n (j := 4) dX7_muds_45 rfl rfl ?_
          refine z_callVi (i := 10 + w) (ci := 2) (As := [.int (iI cc)]) (rest := [.int (iI cc), .ref (q (10 + w))]) (c_X2_kindOf  hq hw hRt (by omega)) dX7_muds_46 gX7_muds_X2_kindOf rfl cd_X2_kindOf ⟨Nat.le_of_ble_eq_true rfl, Nat.le_of_ble_eq_true rfl⟩ rfl rfl (by omega) (cX_rv hw) rfl rfl (Nat.le_of_ble_eq_true rfl) ⟨Nat.zero_le _, Nat.zero_le _⟩ (fun r_46 g_46 hp_46 => ?_)
          obtain ⟨⟨e_46, he_46, rfl⟩, rfl⟩ := hp_46
          refine z_iload (j := 0) dX7_muds_49 rfl ?_
          refine z_callVi (i := 10 + w) (ci := 2) (As := [.int (iI cc), .int (iI e_46), .int (iI u)]) (rest := []) (c_X2_holdsIf  hq hw hRt (by omega) (by rw [he_46, if_pos (by omega)]; exact htk) (by omega)) dX7_muds_51 gX7_muds_X2_holdsIf rfl cd_X2_holdsIf ⟨Nat.le_of_ble_eq_true rfl, Nat.le_of_ble_eq_true rfl⟩ rfl rfl (by omega) (cX_rv hw) rfl rfl (Nat.le_of_ble_eq_true rfl) ⟨Nat.zero_le _, Nat.zero_le _⟩ (fun r_51 g_51 hp_51 => ?_)
          obtain ⟨⟨e_51, he_51, rfl⟩, rfl⟩ := hp_51
          have hkk : e_51 = holdK (rD (aR (vX w xi xa)) cc.toNat) (rK (aR (vX w xi xa)) cc.toNat) u ∧ 0 ≤ e_51 ∧ e_51 ≤ 9 := by
            have g0 : e_51 = holdK (rD (aR (vX w xi xa)) cc.toNat) (rK (aR (vX w xi xa)) cc.toNat) u := by
              rw [he_51, if_pos (by omega), he_46, if_pos (by omega), t8, t4]
            exact ⟨g0, by rw [g0]; exact holdK_rng (by omega)⟩
          refine z_istore [(10, .int (iI e_51)), (9, .int (iI u)), (8, .int (iI ((mk : Nat) : Int))), (7, .int (iI e_10)), (0, .ref (q 0)), (1, .int (iI cc)), (2, .int (iI z)), (3, .int (iI ln)), (4, .int (iI i)), (5, .int (iI nn)), (6, .int (iI up))] dX7_muds_54 (by decide) rfl ?_
          refine z_aload_n (j := 4) dX7_muds_56 rfl rfl ?_
          refine z_getf (i := 0) (ci := 7) (k := 4) (v := .ref (q 21)) dX7_muds_57 m_X7_muds_f37 in_X7_muds_X7 rfl (by decide) rfl (by omega) rfl rfl ?_
          refine z_aload_n (j := 4) dX7_muds_60 rfl rfl ?_
          refine z_getf (i := 0) (ci := 7) (k := 1) (v := .ref (q (10 + w))) dX7_muds_61 m_X7_muds_f20 in_X7_muds_X7 rfl (by decide) rfl (by omega) rfl rfl ?_
          refine z_iload_n (j := 5) dX7_muds_64 rfl rfl ?_
          refine z_iload (j := 0) dX7_muds_65 rfl ?_
          refine z_callVl (i := 21) (ci := 0) (As := [.ref (q (10 + w)), .int (iI cc), .int (iI e_51)]) (rest := []) (c_X0_dryParts  hq hw hRt he_10.2.2.1.2.2.2.2.2.1.1 he_10.2.2.1.2.2.2.2.2.1.2.1 (fun k hk => by have g := JF_cells hO (by omega) hjt hrun k hk; rw [fx _ (by omega)]; exact g) (by omega) (by omega)) dX7_muds_67 gX7_muds_X0_dryParts rfl cd_X0_dryParts ⟨Nat.le_of_ble_eq_true rfl, Nat.le_of_ble_eq_true rfl⟩ rfl rfl (by omega) rfl rfl rfl (Nat.le_of_ble_eq_true rfl) ⟨Nat.zero_le _, Nat.zero_le _⟩ (fun r_67 g_67 hp_67 => ?_)
          obtain ⟨⟨e_67, he_67, rfl⟩, rfl⟩ := hp_67
          rw [dry_is hRe hjt hn9.1 hrun, hkk.1] at he_67
          have hdr := dryA_rng (j := z.toNat) (i := i) (nn := nn) hO cc hkk.2
          rw [hkk.1, ← he_67] at hdr
          have h10 := pow10_le (show nn.toNat ≤ 18 by omega)
          refine z_iload (j := 10) dX7_muds_70 rfl ?_
          refine z_i2l dX7_muds_72 (by omega) ?_
          refine z_lcmp dX7_muds_73 (by omega) (by omega) (fun r_73 hr_73 => ?_)
          refine z_if_ne (tgt := 86) dX7_muds_74 (by decide) (by omega) (fun c_74 => ?_) (fun c_74 => ?_)
          · refine z_iinc (j := 1) [(9, .int (iI (u + 1))), (10, .int (iI e_51)), (8, .int (iI ((mk : Nat) : Int))), (7, .int (iI e_10)), (0, .ref (q 0)), (1, .int (iI cc)), (2, .int (iI z)), (3, .int (iI ln)), (4, .int (iI i)), (5, .int (iI nn)), (6, .int (iI up))] dX7_muds_86 rfl (by decide) rfl ?_
            refine z_goto (tgt := 29) dX7_muds_89 (by decide) ?_
            exact z_sub [(9, .int (iI (u + 1))), (8, .int (iI ((mk : Nat) : Int))), (7, .int (iI e_10)), (0, .ref (q 0)), (1, .int (iI cc)), (2, .int (iI z)), (3, .int (iI ln)), (4, .int (iI i)), (5, .int (iI nn)), (6, .int (iI up))] [0, 2, 3, 4, 5, 6, 7, 8, 9, 10] rfl (ih_29 (u + 1) mk (by omega) (by omega) (by
            rw [stepN hu.1, orM]
            rw [show ((u.toNat : Nat) : Int) = u by omega]
            first | rw [if_pos (show dryA (vX w xi xa) z.toNat i nn cc (holdK (rD (aR (vX w xi xa)) cc.toNat) (rK (aR (vX w xi xa)) cc.toNat) u) = up by omega), hmk] | rw [if_neg (show ¬ dryA (vX w xi xa) z.toNat i nn cc (holdK (rD (aR (vX w xi xa)) cc.toNat) (rK (aR (vX w xi xa)) cc.toNat) u) = up by omega), hmk]))
          · refine z_iload (j := 2) dX7_muds_77 rfl ?_
            refine z_iconst dX7_muds_79 ?_
            refine z_iload (j := 1) dX7_muds_80 rfl ?_
            refine z_ishl (iI ((2 ^ u.toNat : Nat) : Int)) dX7_muds_82 (bi_shl (by omega)) ?_
            refine z_ior (iI ((mk ||| 2 ^ u.toNat : Nat) : Int)) dX7_muds_83 (bi_or _ _) ?_
            refine z_istore [(8, .int (iI ((mk ||| 2 ^ u.toNat : Nat) : Int))), (10, .int (iI e_51)), (9, .int (iI u)), (7, .int (iI e_10)), (0, .ref (q 0)), (1, .int (iI cc)), (2, .int (iI z)), (3, .int (iI ln)), (4, .int (iI i)), (5, .int (iI nn)), (6, .int (iI up))] dX7_muds_84 (by decide) rfl ?_
            refine z_iinc (j := 2) [(9, .int (iI (u + 1))), (8, .int (iI ((mk ||| 2 ^ u.toNat : Nat) : Int))), (10, .int (iI e_51)), (7, .int (iI e_10)), (0, .ref (q 0)), (1, .int (iI cc)), (2, .int (iI z)), (3, .int (iI ln)), (4, .int (iI i)), (5, .int (iI nn)), (6, .int (iI up))] dX7_muds_86 rfl (by decide) rfl ?_
            refine z_goto (tgt := 29) dX7_muds_89 (by decide) ?_
            exact z_sub [(9, .int (iI (u + 1))), (8, .int (iI ((mk ||| 2 ^ u.toNat : Nat) : Int))), (7, .int (iI e_10)), (0, .ref (q 0)), (1, .int (iI cc)), (2, .int (iI z)), (3, .int (iI ln)), (4, .int (iI i)), (5, .int (iI nn)), (6, .int (iI up))] [0, 1, 3, 4, 5, 6, 7, 8, 9, 10] rfl (ih_29 (u + 1) (mk ||| 2 ^ u.toNat) (by omega) (by omega) (by
            rw [stepN hu.1, orM]
            rw [show ((u.toNat : Nat) : Int) = u by omega]
            first | rw [if_pos (show dryA (vX w xi xa) z.toNat i nn cc (holdK (rD (aR (vX w xi xa)) cc.toNat) (rK (aR (vX w xi xa)) cc.toNat) u) = up by omega), hmk] | rw [if_neg (show ¬ dryA (vX w xi xa) z.toNat i nn cc (holdK (rD (aR (vX w xi xa)) cc.toNat) (rK (aR (vX w xi xa)) cc.toNat) u) = up by omega), hmk]))
    exact z_sub [(9, .int (iI 0)), (8, .int (iI 0)), (7, .int (iI e_10)), (0, .ref (q 0)), (1, .int (iI cc)), (2, .int (iI z)), (3, .int (iI ln)), (4, .int (iI i)), (5, .int (iI nn)), (6, .int (iI up))] [0, 1, 2, 3, 4, 5, 6, 7, 8, 9] rfl (hl_29 _ 0 0 (Nat.lt_succ_self _) (by omega) (rfl))
  · refine z_iload (j := 0) dX7_muds_20 rfl ?_
    exact z_iret dX7_muds_22 ⟨_, _, _, (by
      unfold spMuds; rw [if_pos (show (chkFor (vX w xi xa) cc z ln i nn up).1 ≠ 0 by rw [← he_10.1]; exact c_17)]
      exact ⟨⟨he_10.2.1, he_10.1⟩, he_10.2.2.1⟩), rfl, rfl⟩
