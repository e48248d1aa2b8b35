theorem cd_X8_noPlace : yX8_noPlace.cls = RX8 ∧ yX8_noPlace.cls ≠ "java/lang/invoke/MethodHandle" ∧ yX8_noPlace.cls ≠ "java/lang/invoke/VarHandle" ∧ (parseMethodDescriptor yX8_noPlace.desc).map (fun d => d.parameters.length) = some 1 := ⟨rfl, by decide +kernel, by decide +kernel, by decide +kernel⟩
theorem m_X8_ofCell_f7 : Cond.fieldLink RX8 7 "PoleBehindModel" "kindOf" "[I" ∈ wsX8_ofCell := List.mem_of_getElem? (i := 1) rfl
theorem in_X8_ofCell_X8 : ∀ w ∈ wsX80, w ∈ wsX8_ofCell := fun _ h => List.mem_cons_of_mem _ (List.mem_append_right _ h)
theorem m_X8_ofCell_f13 : Cond.fieldLink RX8 13 "PoleBehindModel" "mudOf" "[I" ∈ wsX8_ofCell := List.mem_of_getElem? (i := 2) rfl
theorem m_X8_ofCell_f16 : Cond.fieldLink RX8 16 "PoleBehindModel" "deepIn" "[I" ∈ wsX8_ofCell := List.mem_of_getElem? (i := 3) rfl
theorem m_X8_ofCell_f19 : Cond.fieldLink RX8 19 "PoleBehindModel" "bridgeOver" "[I" ∈ wsX8_ofCell := List.mem_of_getElem? (i := 4) rfl
set_option maxHeartbeats 400000 in
set_option maxRecDepth 100000 in
theorem c_X8_ofCell {l : Launch} {D : va_G} {cI cJ cZ cR : ClassId} {q : Nat → Nat} {mi : Nat → Int} {ma : Nat → Nat → Int} (hq : qOk 18 q) {z wh : Int} (hO : MOk mi ma) (hz : -2147483648 ≤ z ∧ z < 2147483648) (hwh : -2147483648 ≤ wh ∧ wh < 2147483648) : Cti l D vwCl (tysC cI cJ cZ cR) 18 q yX8_ofCell wsX8_ofCell ({ frames := 2, cells := 0, slots := 0, locals := 46 } : Room) [.ref (q 0), .int (iI z), .int (iI wh)] (cM cI cJ cZ q mi ma) (fun (r : Int32) (g : Nat → va_E) => (∃ e : Int, (spOfCell (vM mi ma) z wh e) ∧ r = iI e) ∧ g = (cM cI cJ cZ q mi ma)) := by
  refine Cti.of (cc := cX8_ofCell) (nL := 3) (own := RX8) (ret := (some .int)) (by decide) rfl rfl hq (Nat.le_of_ble_eq_true rfl) (fun p e s m args below meth c => ?_)
  obtain ⟨hR, hn2, hQ, hSh, hSn, hHd, hRdg, hfa⟩ := id hO
  obtain ⟨hN, hP, hK, hM, hD, hB⟩ := id hR
  have hRM := MRv_M hR
  have hnn : rN (rvM mi ma) = mi 1 := rfl
  have hnA : rN (aR (vM mi ma)) = mi 1 := rfl
  have hdz := hD z.toNat
  have hbz := hB z.toNat
  refine z_aload_n (j := 0) dX8_ofCell_0 rfl rfl ?_
  refine z_iload_n (j := 1) dX8_ofCell_1 rfl rfl ?_
  refine z_callVi (i := 0) (ci := 8) (As := [.int (iI z)]) (rest := []) (c_X8_noPlace  hq hR (by omega)) dX8_ofCell_2 gX8_ofCell_X8_noPlace rfl cd_X8_noPlace ⟨Nat.le_of_ble_eq_true rfl, Nat.le_of_ble_eq_true rfl⟩ rfl rfl (by omega) rfl rfl rfl (Nat.le_of_ble_eq_true rfl) ⟨Nat.zero_le _, Nat.zero_le _⟩ (fun r_2 g_2 hp_2 => ?_)
  obtain ⟨⟨h_2, rfl⟩ | ⟨h_2, rfl⟩, rfl⟩ := hp_2
  · refine z_if_eq (tgt := 10) dX8_ofCell_5 (by decide) (by decide) (fun h => absurd h (by decide)) (fun _ => ?_)
    refine z_iconst dX8_ofCell_8 ?_
    exact z_iret dX8_ofCell_9 ⟨⟨_, (by unfold spOfCell; rw [if_pos (show ¬ (0 ≤ z ∧ z < rN (aR (vM mi ma))) by rw [hnA]; omega)]), rfl⟩, rfl⟩
  · refine z_if_eq (tgt := 10) dX8_ofCell_5 (by decide) (by decide) (fun _ => ?_) (fun h => absurd h (by decide))
    refine z_iload_n (j := 2) dX8_ofCell_10 rfl rfl ?_
    by_cases k_11_0 : wh = 0
    · refine z_tsw (kv := 0) (off := 33) (tgt := 44) dX8_ofCell_11 (by omega) k_11_0 (by decide) (by decide) rfl (by decide) ?_
      refine z_aload_n (j := 0) dX8_ofCell_44 rfl rfl ?_
      refine z_getf (i := 0) (ci := 8) (k := 3) (v := .ref (q 1)) dX8_ofCell_45 m_X8_ofCell_f7 in_X8_ofCell_X8 rfl (by decide) rfl (by omega) rfl rfl ?_
      refine z_iload_n (j := 1) dX8_ofCell_48 rfl rfl ?_
      refine z_iald (i := 1) (g := ma 1) 0 dX8_ofCell_49 (by omega) rfl rfl (by omega) (by omega) (by omega) ?_
      exact z_iret dX8_ofCell_50 ⟨⟨_, (by unfold spOfCell; rw [if_neg (show ¬ ¬ (0 ≤ z ∧ z < rN (aR (vM mi ma))) from not_not_intro (by rw [hnA]; omega)), if_pos (by omega)]; exact (nrm_in (by omega)).symm), rfl⟩, rfl⟩
    ·
      by_cases k_11_1 : wh = 1
      · refine z_tsw (kv := 1) (off := 40) (tgt := 51) dX8_ofCell_11 (by omega) k_11_1 (by decide) (by decide) rfl (by decide) ?_
        refine z_aload_n (j := 0) dX8_ofCell_51 rfl rfl ?_
        refine z_getf (i := 0) (ci := 8) (k := 4) (v := .ref (q 2)) dX8_ofCell_52 m_X8_ofCell_f13 in_X8_ofCell_X8 rfl (by decide) rfl (by omega) rfl rfl ?_
        refine z_iload_n (j := 1) dX8_ofCell_55 rfl rfl ?_
        refine z_iald (i := 2) (g := ma 2) 0 dX8_ofCell_56 (by omega) rfl rfl (by omega) (by omega) (by omega) ?_
        exact z_iret dX8_ofCell_57 ⟨⟨_, (by unfold spOfCell; rw [if_neg (show ¬ ¬ (0 ≤ z ∧ z < rN (aR (vM mi ma))) from not_not_intro (by rw [hnA]; omega)), if_neg (by omega), if_pos (by omega)]; exact (nrm_in (by omega)).symm), rfl⟩, rfl⟩
      ·
        by_cases k_11_2 : wh = 2
        · refine z_tsw (kv := 2) (off := 47) (tgt := 58) dX8_ofCell_11 (by omega) k_11_2 (by decide) (by decide) rfl (by decide) ?_
          refine z_aload_n (j := 0) dX8_ofCell_58 rfl rfl ?_
          refine z_iload_n (j := 1) dX8_ofCell_59 rfl rfl ?_
          refine z_callVi (i := 0) (ci := 8) (As := [.int (iI z)]) (rest := []) (c_X8_holdsOf  hq hR (by omega)) dX8_ofCell_60 gX8_ofCell_X8_holdsOf rfl cd_X8_holdsOf ⟨Nat.le_of_ble_eq_true rfl, Nat.le_of_ble_eq_true rfl⟩ rfl rfl (by omega) rfl rfl rfl (Nat.le_of_ble_eq_true rfl) ⟨Nat.zero_le _, Nat.zero_le _⟩ (fun r_60 g_60 hp_60 => ?_)
          obtain ⟨⟨e_60, he_60, rfl⟩, rfl⟩ := hp_60
          exact z_iret dX8_ofCell_63 ⟨⟨_, (by unfold spOfCell; rw [if_neg (show ¬ ¬ (0 ≤ z ∧ z < rN (aR (vM mi ma))) from not_not_intro (by rw [hnA]; omega)), if_neg (by omega), if_neg (by omega), if_pos (by omega)]; exact he_60), rfl⟩, rfl⟩
        ·
          by_cases k_11_3 : wh = 3
          · refine z_tsw (kv := 3) (off := 53) (tgt := 64) dX8_ofCell_11 (by omega) k_11_3 (by decide) (by decide) rfl (by decide) ?_
            refine z_aload_n (j := 0) dX8_ofCell_64 rfl rfl ?_
            refine z_getf (i := 0) (ci := 8) (k := 5) (v := .ref (q 3)) dX8_ofCell_65 m_X8_ofCell_f16 in_X8_ofCell_X8 rfl (by decide) rfl (by omega) rfl rfl ?_
            refine z_iload_n (j := 1) dX8_ofCell_68 rfl rfl ?_
            refine z_iald (i := 3) (g := ma 3) 0 dX8_ofCell_69 (by omega) rfl rfl (by omega) (by omega) (by omega) ?_
            exact z_iret dX8_ofCell_70 ⟨⟨_, (by unfold spOfCell; rw [if_neg (show ¬ ¬ (0 ≤ z ∧ z < rN (aR (vM mi ma))) from not_not_intro (by rw [hnA]; omega)), if_neg (by omega), if_neg (by omega), if_neg (by omega), if_pos (by omega)]; exact (nrm_in (by omega)).symm), rfl⟩, rfl⟩
          ·
            by_cases k_11_4 : wh = 4
            · refine z_tsw (kv := 4) (off := 60) (tgt := 71) dX8_ofCell_11 (by omega) k_11_4 (by decide) (by decide) rfl (by decide) ?_
              refine z_aload_n (j := 0) dX8_ofCell_71 rfl rfl ?_
              refine z_getf (i := 0) (ci := 8) (k := 6) (v := .ref (q 4)) dX8_ofCell_72 m_X8_ofCell_f19 in_X8_ofCell_X8 rfl (by decide) rfl (by omega) rfl rfl ?_
              refine z_iload_n (j := 1) dX8_ofCell_75 rfl rfl ?_
              refine z_iald (i := 4) (g := ma 4) 0 dX8_ofCell_76 (by omega) rfl rfl (by omega) (by omega) (by omega) ?_
              exact z_iret dX8_ofCell_77 ⟨⟨_, (by unfold spOfCell; rw [if_neg (show ¬ ¬ (0 ≤ z ∧ z < rN (aR (vM mi ma))) from not_not_intro (by rw [hnA]; omega)), if_neg (by omega), if_neg (by omega), if_neg (by omega), if_neg (by omega), if_pos (by omega)]; exact (nrm_in (by omega)).symm), rfl⟩, rfl⟩
            ·
              refine z_tswD (tgt := 78) dX8_ofCell_11 (by omega) (by omega) (by decide) ?_
              refine z_bipush dX8_ofCell_78 (by decide) ?_
              exact z_iret dX8_ofCell_80 ⟨⟨_, (by unfold spOfCell; rw [if_neg (show ¬ ¬ (0 ≤ z ∧ z < rN (aR (vM mi ma))) from not_not_intro (by rw [hnA]; omega)), if_neg (by omega), if_neg (by omega), if_neg (by omega), if_neg (by omega), if_neg (by omega)]), rfl⟩, rfl⟩
theorem m_X8_pace_C139 : Cond.constantLong RX8 139 (lI (3)) ∈ wsX8_pace := List.mem_of_getElem? (i := 1) (by decide +kernel)
theorem m_X8_pace_f75 : Cond.fieldLink RX8 75 "PoleBehindModel" "cells" "I" ∈ wsX8_pace := List.mem_of_getElem? (i := 2) rfl
theorem in_X8_pace_X8 : ∀ w ∈ wsX80, w ∈ wsX8_pace := fun _ h => List.mem_cons_of_mem _ (List.mem_append_right _ h)
theorem m_X8_pace_f127 : Cond.fieldLink RX8 127 "PoleBehindModel" "paceFirst" "I" ∈ wsX8_pace := List.mem_of_getElem? (i := 3) rfl
set_option maxHeartbeats 400000 in
set_option maxRecDepth 100000 in
theorem c_X8_pace {l : Launch} {D : va_G} {cI cJ cZ cR : ClassId} {q : Nat → Nat} {mi : Nat → Int} {ma : Nat → Nat → Int} (hq : qOk 18 q) {v : Int} (hO : MOk mi ma) (hv : -2147483648 ≤ v ∧ v < 2147483648) : Cti l D vwCl (tysC cI cJ cZ cR) 18 q yX8_pace wsX8_pace ({ frames := 1, cells := 0, slots := 0, locals := 25 } : Room) [.ref (q 0), .int (iI v)] (cM cI cJ cZ q mi ma) (fun (r : Int32) (g : Nat → va_E) => ∃ (e : Int) (mi' : Nat → Int), (spPace (vM mi ma) v e (vM mi' ma) ∧ MOk mi' ma) ∧ r = iI e ∧ g = (cM cI cJ cZ q mi' ma)) := by
  refine Cti.of (cc := cX8_pace) (nL := 3) (own := RX8) (ret := (some .int)) (by decide) rfl rfl hq (Nat.le_of_ble_eq_true rfl) (fun p e s m args below meth c => ?_)
  obtain ⟨hR, hn2, hQ, hSh, hSn, hHd, hRdg, hfa⟩ := id hO
  obtain ⟨hN, hP, hK, hM, hD, hB⟩ := id hR
  have hRM := MRv_M hR
  have hnn : rN (rvM mi ma) = mi 1 := rfl
  have hnA : rN (aR (vM mi ma)) = mi 1 := rfl
  refine z_iload_n (j := 1) dX8_pace_0 rfl rfl ?_
  refine z_i2l dX8_pace_1 (by omega) ?_
  refine z_lconst (z := 0) dX8_pace_2 (by decide) ?_
  refine z_ldc2 dX8_pace_3 m_X8_pace_C139 ?_
  refine z_callSi (As := [.long (lI v), .long (lI 0), .long (lI 3)]) (rest := []) (c_X8_in  hq (by omega) (by omega) (by omega)) dX8_pace_6 gX8_pace_X8_in rfl cd_X8_in ⟨Nat.le_of_ble_eq_true rfl, Nat.le_of_ble_eq_true rfl⟩ rfl rfl rfl (Nat.le_of_ble_eq_true rfl) ⟨Nat.zero_le _, Nat.zero_le _⟩ (fun r_6 g_6 hp_6 => ?_)
  obtain ⟨⟨h_6, rfl⟩ | ⟨h_6, rfl⟩, rfl⟩ := hp_6
  · refine z_if_ne (tgt := 15) dX8_pace_9 (by decide) (by decide) (fun _ => ?_) (fun h => absurd h (by decide))
    refine z_aload_n (j := 0) dX8_pace_15 rfl rfl ?_
    refine z_getf (i := 0) (ci := 8) (k := 1) (v := .int (iI (mi 1))) dX8_pace_16 m_X8_pace_f75 in_X8_pace_X8 rfl (by decide) rfl (by omega) rfl rfl ?_
    refine z_if_ne (tgt := 25) dX8_pace_19 (by decide) (by omega) (fun c_19 => ?_) (fun c_19 => ?_)
    · refine z_aload_n (j := 0) dX8_pace_25 rfl rfl ?_
      refine z_getf (i := 0) (ci := 8) (k := 2) (v := .int (iI (mi 2))) dX8_pace_26 m_X8_pace_f127 in_X8_pace_X8 rfl (by decide) rfl (by omega) rfl rfl ?_
      refine z_istore_n [(2, .int (iI (mi 2))), (0, .ref (q 0)), (1, .int (iI v))] dX8_pace_29 rfl (by decide) rfl ?_
      refine z_aload_n (j := 1) dX8_pace_30 rfl rfl ?_
      refine z_iload_n (j := 2) dX8_pace_31 rfl rfl ?_
      refine z_putf (i := 0) (ci := 8) (k := 2) (cM cI cJ cZ q (va_up mi 2 v) ma) dX8_pace_32 m_X8_pace_f127 in_X8_pace_X8 rfl (by decide) rfl (by omega) rfl tyX8_ok nmX8 rfl rfl rfl (Nat.le_of_ble_eq_true rfl) lm_2 ?_
      refine z_iload_n (j := 0) dX8_pace_35 rfl rfl ?_
      exact z_iret dX8_pace_36 ⟨_, _, (by unfold spPace; rw [if_neg (by omega), if_neg (by rw [hnA]; omega)]; exact ⟨⟨rfl, vM_pa⟩, MOk_pa hO (by omega)⟩), rfl, rfl⟩
    · refine z_bipush dX8_pace_22 (by decide) ?_
      exact z_iret dX8_pace_24 ⟨_, _, (by unfold spPace; rw [if_neg (by omega), if_pos (by rw [hnA]; omega)]; exact ⟨⟨rfl, rfl⟩, hO⟩), rfl, rfl⟩
  · refine z_if_ne (tgt := 15) dX8_pace_9 (by decide) (by decide) (fun h => absurd h (by decide)) (fun _ => ?_)
    refine z_bipush dX8_pace_12 (by decide) ?_
    exact z_iret dX8_pace_14 ⟨_, _, (by unfold spPace; rw [if_pos (by omega)]; exact ⟨⟨rfl, rfl⟩, hO⟩), rfl, rfl⟩
theorem m_X8_bridge_f19 : Cond.fieldLink RX8 19 "PoleBehindModel" "bridgeOver" "[I" ∈ wsX8_bridge := List.mem_of_getElem? (i := 1) rfl
theorem in_X8_bridge_X8 : ∀ w ∈ wsX80, w ∈ wsX8_bridge := fun _ h => List.mem_cons_of_mem _ (List.mem_append_right _ h)
set_option maxHeartbeats 400000 in
set_option maxRecDepth 100000 in
theorem c_X8_bridge {l : Launch} {D : va_G} {cI cJ cZ cR : ClassId} {q : Nat → Nat} {mi : Nat → Int} {ma : Nat → Nat → Int} (hq : qOk 18 q) {z bt : Int} (hO : MOk mi ma) (hz : -2147483648 ≤ z ∧ z < 2147483648) (hbt : bt = 0 ∨ bt = 1) : Cti l D vwCl (tysC cI cJ cZ cR) 18 q yX8_bridge wsX8_bridge ({ frames := 2, cells := 0, slots := 0, locals := 46 } : Room) [.ref (q 0), .int (iI z), .int (iI bt)] (cM cI cJ cZ q mi ma) (fun (r : Int32) (g : Nat → va_E) => ∃ (e : Int) (ma' : Nat → Nat → Int), (spBridge (vM mi ma) z bt e (vM mi ma') ∧ MOk mi ma') ∧ r = iI e ∧ g = (cM cI cJ cZ q mi ma')) := by
  refine Cti.of (cc := cX8_bridge) (nL := 4) (own := RX8) (ret := (some .int)) (by decide) rfl rfl hq (Nat.le_of_ble_eq_true rfl) (fun p e s m args below meth c => ?_)
  obtain ⟨hR, hn2, hQ, hSh, hSn, hHd, hRdg, hfa⟩ := id hO
  obtain ⟨hN, hP, hK, hM, hD, hB⟩ := id hR
  have hRM := MRv_M hR
  have hnn : rN (rvM mi ma) = mi 1 := rfl
  have hnA : rN (aR (vM mi ma)) = mi 1 := rfl
  have hbz := hB z.toNat
  have hrb : 0 ≤ z → z < mi 1 → rB (aR (vM mi ma)) z.toNat = ma 4 z.toNat := fun h1 h2 => nrm_in (by omega)
  refine z_aload_n (j := 0) dX8_bridge_0 rfl rfl ?_
  refine z_iload_n (j := 1) dX8_bridge_1 rfl rfl ?_
  refine z_callVi (i := 0) (ci := 8) (As := [.int (iI z)]) (rest := []) (c_X8_noPlace  hq hR (by omega)) dX8_bridge_2 gX8_bridge_X8_noPlace rfl cd_X8_noPlace ⟨Nat.le_of_ble_eq_true rfl, Nat.le_of_ble_eq_true rfl⟩ rfl rfl (by omega) rfl rfl rfl (Nat.le_of_ble_eq_true rfl) ⟨Nat.zero_le _, Nat.zero_le _⟩ (fun r_2 g_2 hp_2 => ?_)
  obtain ⟨⟨h_2, rfl⟩ | ⟨h_2, rfl⟩, rfl⟩ := hp_2
  · refine z_if_eq (tgt := 10) dX8_bridge_5 (by decide) (by decide) (fun h => absurd h (by decide)) (fun _ => ?_)
    refine z_iconst dX8_bridge_8 ?_
    exact z_iret dX8_bridge_9 ⟨_, _, (by unfold spBridge; rw [if_pos (show ¬ (0 ≤ z ∧ z < rN (aR (vM mi ma))) by rw [hnA]; omega)]; exact ⟨⟨rfl, rfl⟩, hO⟩), rfl, rfl⟩
  · refine z_if_eq (tgt := 10) dX8_bridge_5 (by decide) (by decide) (fun _ => ?_) (fun h => absurd h (by decide))
    refine z_aload_n (j := 0) dX8_bridge_10 rfl rfl ?_
    refine z_getf (i := 0) (ci := 8) (k := 6) (v := .ref (q 4)) dX8_bridge_11 m_X8_bridge_f19 in_X8_bridge_X8 rfl (by decide) rfl (by omega) rfl rfl ?_
    refine z_iload_n (j := 1) dX8_bridge_14 rfl rfl ?_
    refine z_iald (i := 4) (g := ma 4) 0 dX8_bridge_15 (by omega) rfl rfl (by omega) (by omega) (by omega) ?_
    refine z_istore_n [(3, .int (iI (ma 4 z.toNat))), (0, .ref (q 0)), (1, .int (iI z)), (2, .int (iI bt))] dX8_bridge_16 rfl (by decide) rfl ?_
    refine z_aload_n (j := 1) dX8_bridge_17 rfl rfl ?_
    refine z_getf (i := 0) (ci := 8) (k := 6) (v := .ref (q 4)) dX8_bridge_18 m_X8_bridge_f19 in_X8_bridge_X8 rfl (by decide) rfl (by omega) rfl rfl ?_
    refine z_iload_n (j := 2) dX8_bridge_21 rfl rfl ?_
    refine z_iload_n (j := 3) dX8_bridge_22 rfl rfl ?_
    refine z_if_eq (tgt := 30) dX8_bridge_23 (by decide) (by omega) (fun c_23 => ?_) (fun c_23 => ?_)
    · refine z_iconst dX8_bridge_30 ?_
      refine z_iast (i := 4) (g := ma 4) 0 (cM cI cJ cZ q mi (va_up ma 4 (va_up (ma 4) z.toNat 0))) dX8_bridge_31 (by omega) rfl rfl (by omega) (by omega) (by omega) la_4 ?_
      refine z_iload_n (j := 0) dX8_bridge_32 rfl rfl ?_
      refine z_aload_n (j := 1) dX8_bridge_33 rfl rfl ?_
      refine z_getf (i := 0) (ci := 8) (k := 6) (v := .ref (q 4)) dX8_bridge_34 m_X8_bridge_f19 in_X8_bridge_X8 rfl (by decide) rfl (by omega) rfl rfl ?_
      refine z_iload_n (j := 2) dX8_bridge_37 rfl rfl ?_
      refine z_iald (i := 4) (g := va_up (ma 4) z.toNat 0) 0 dX8_bridge_38 (by omega) rfl rfl (by omega) (by omega) (by omega) ?_
      refine z_topi (iI 0) (by rw [up_s]) ?_
      refine z_icmp_ne (tgt := 46) dX8_bridge_39 (by decide) (by omega) (by decide) (fun c_39 => ?_) (fun c_39 => ?_)
      · refine z_iconst dX8_bridge_46 ?_
        exact z_iret dX8_bridge_47 ⟨_, _, (by
      have hb1 := hrb (by omega) (by omega)
      unfold spBridge; rw [if_neg (show ¬ ¬ (0 ≤ z ∧ z < rN (aR (vM mi ma))) from not_not_intro (by rw [hnA]; omega)), hb1, if_neg (show ¬ ma 4 z.toNat = bt by omega), show bt = 0 by omega]
      exact ⟨⟨rfl, vM_br (by omega)⟩, MOk_br hO (by omega)⟩), rfl, rfl⟩
      · refine z_iconst dX8_bridge_42 ?_
        refine z_goto (tgt := 47) dX8_bridge_43 (by decide) ?_
        exact z_iret dX8_bridge_47 ⟨_, _, (by
      have hb1 := hrb (by omega) (by omega)
      unfold spBridge; rw [if_neg (show ¬ ¬ (0 ≤ z ∧ z < rN (aR (vM mi ma))) from not_not_intro (by rw [hnA]; omega)), hb1, if_pos (show ma 4 z.toNat = bt by omega)]
      refine ⟨⟨rfl, ?_⟩, MOk_br hO (by omega)⟩
      rw [show (0 : Int) = ma 4 z.toNat by omega, up_id, up_id]), rfl, rfl⟩
    · refine z_iconst dX8_bridge_26 ?_
      refine z_goto (tgt := 31) dX8_bridge_27 (by decide) ?_
      refine z_iast (i := 4) (g := ma 4) 0 (cM cI cJ cZ q mi (va_up ma 4 (va_up (ma 4) z.toNat 1))) dX8_bridge_31 (by omega) rfl rfl (by omega) (by omega) (by omega) la_4 ?_
      refine z_iload_n (j := 0) dX8_bridge_32 rfl rfl ?_
      refine z_aload_n (j := 1) dX8_bridge_33 rfl rfl ?_
      refine z_getf (i := 0) (ci := 8) (k := 6) (v := .ref (q 4)) dX8_bridge_34 m_X8_bridge_f19 in_X8_bridge_X8 rfl (by decide) rfl (by omega) rfl rfl ?_
      refine z_iload_n (j := 2) dX8_bridge_37 rfl rfl ?_
      refine z_iald (i := 4) (g := va_up (ma 4) z.toNat 1) 0 dX8_bridge_38 (by omega) rfl rfl (by omega) (by omega) (by omega) ?_
      refine z_topi (iI 1) (by rw [up_s]) ?_
      refine z_icmp_ne (tgt := 46) dX8_bridge_39 (by decide) (by omega) (by decide) (fun c_39 => ?_) (fun c_39 => ?_)
      · refine z_iconst dX8_bridge_46 ?_
        exact z_iret dX8_bridge_47 ⟨_, _, (by
      have hb1 := hrb (by omega) (by omega)
      unfold spBridge; rw [if_neg (show ¬ ¬ (0 ≤ z ∧ z < rN (aR (vM mi ma))) from not_not_intro (by rw [hnA]; omega)), hb1, if_neg (show ¬ ma 4 z.toNat = bt by omega), show bt = 1 by omega]
      exact ⟨⟨rfl, vM_br (by omega)⟩, MOk_br hO (by omega)⟩), rfl, rfl⟩
      · refine z_iconst dX8_bridge_42 ?_
        refine z_goto (tgt := 47) dX8_bridge_43 (by decide) ?_
        exact z_iret dX8_bridge_47 ⟨_, _, (by
      have hb1 := hrb (by omega) (by omega)
      unfold spBridge; rw [if_neg (show ¬ ¬ (0 ≤ z ∧ z < rN (aR (vM mi ma))) from not_not_intro (by rw [hnA]; omega)), hb1, if_pos (show ma 4 z.toNat = bt by omega)]
      refine ⟨⟨rfl, ?_⟩, MOk_br hO (by omega)⟩
      rw [show (1 : Int) = ma 4 z.toNat by omega, up_id, up_id]), rfl, rfl⟩
theorem m_X8_tell_f7 : Cond.fieldLink RX8 7 "PoleBehindModel" "kindOf" "[I" ∈ wsX8_tell := List.mem_of_getElem? (i := 1) rfl
theorem in_X8_tell_X8 : ∀ w ∈ wsX80, w ∈ wsX8_tell := fun _ h => List.mem_cons_of_mem _ (List.mem_append_right _ h)
theorem cd_X8_traced : yX8_traced.cls = RX8 ∧ yX8_traced.cls ≠ "java/lang/invoke/MethodHandle" ∧ yX8_traced.cls ≠ "java/lang/invoke/VarHandle" ∧ (parseMethodDescriptor yX8_traced.desc).map (fun d => d.parameters.length) = some 1 := ⟨rfl, by decide +kernel, by decide +kernel, by decide +kernel⟩
theorem m_X8_tell_f13 : Cond.fieldLink RX8 13 "PoleBehindModel" "mudOf" "[I" ∈ wsX8_tell := List.mem_of_getElem? (i := 2) rfl
set_option maxHeartbeats 400000 in
set_option maxRecDepth 100000 in
theorem c_X8_tell {l : Launch} {D : va_G} {cI cJ cZ cR : ClassId} {q : Nat → Nat} {mi : Nat → Int} {ma : Nat → Nat → Int} (hq : qOk 18 q) {z : Int} (hO : MOk mi ma) (hz : -2147483648 ≤ z ∧ z < 2147483648) : Cti l D vwCl (tysC cI cJ cZ cR) 18 q yX8_tell wsX8_tell ({ frames := 2, cells := 0, slots := 0, locals := 46 } : Room) [.ref (q 0), .int (iI z)] (cM cI cJ cZ q mi ma) (fun (r : Int32) (g : Nat → va_E) => ∃ (e : Int) (mi' : Nat → Int), (spTell (vM mi ma) z e (vM mi' ma) ∧ MOk mi' ma) ∧ r = iI e ∧ g = (cM cI cJ cZ q mi' ma)) := by
  refine Cti.of (cc := cX8_tell) (nL := 4) (own := RX8) (ret := (some .int)) (by decide) rfl rfl hq (Nat.le_of_ble_eq_true rfl) (fun p e s m args below meth c => ?_)
  obtain ⟨hR, hn2, hQ, hSh, hSn, hHd, hRdg, hfa⟩ := id hO
  obtain ⟨hN, hP, hK, hM, hD, hB⟩ := id hR
  have hRM := MRv_M hR
  have hnn : rN (rvM mi ma) = mi 1 := rfl
  have hnA : rN (aR (vM mi ma)) = mi 1 := rfl
  have hkz := hK z.toNat
  refine z_aload_n (j := 0) dX8_tell_0 rfl rfl ?_
  refine z_iload_n (j := 1) dX8_tell_1 rfl rfl ?_
  refine z_callVi (i := 0) (ci := 8) (As := [.int (iI z)]) (rest := []) (c_X8_noPlace  hq hR (by omega)) dX8_tell_2 gX8_tell_X8_noPlace rfl cd_X8_noPlace ⟨Nat.le_of_ble_eq_true rfl, Nat.le_of_ble_eq_true rfl⟩ rfl rfl (by omega) rfl rfl rfl (Nat.le_of_ble_eq_true rfl) ⟨Nat.zero_le _, Nat.zero_le _⟩ (fun r_2 g_2 hp_2 => ?_)
  obtain ⟨⟨h_2, rfl⟩ | ⟨h_2, rfl⟩, rfl⟩ := hp_2
  · refine z_if_eq (tgt := 10) dX8_tell_5 (by decide) (by decide) (fun h => absurd h (by decide)) (fun _ => ?_)
    refine z_iconst dX8_tell_8 ?_
    exact z_iret dX8_tell_9 ⟨_, _, (by unfold spTell; rw [if_pos (show ¬ (0 ≤ z ∧ z < rN (aR (vM mi ma))) by rw [hnA]; omega)]; exact ⟨⟨rfl, rfl⟩, hO⟩), rfl, rfl⟩
  · refine z_if_eq (tgt := 10) dX8_tell_5 (by decide) (by decide) (fun _ => ?_) (fun h => absurd h (by decide))
    refine z_aload_n (j := 0) dX8_tell_10 rfl rfl ?_
    refine z_getf (i := 0) (ci := 8) (k := 3) (v := .ref (q 1)) dX8_tell_11 m_X8_tell_f7 in_X8_tell_X8 rfl (by decide) rfl (by omega) rfl rfl ?_
    refine z_iload_n (j := 1) dX8_tell_14 rfl rfl ?_
    refine z_iald (i := 1) (g := ma 1) 0 dX8_tell_15 (by omega) rfl rfl (by omega) (by omega) (by omega) ?_
    refine z_istore_n [(2, .int (iI (ma 1 z.toNat))), (0, .ref (q 0)), (1, .int (iI z))] dX8_tell_16 rfl (by decide) rfl ?_
    refine z_iload_n (j := 0) dX8_tell_17 rfl rfl ?_
    refine z_iconst dX8_tell_18 ?_
    refine z_icmp_ne (tgt := 27) dX8_tell_19 (by decide) (by omega) (by decide) (fun c_19 => ?_) (fun c_19 => ?_)
    · refine z_iload_n (j := 0) dX8_tell_27 rfl rfl ?_
      refine z_if_le (tgt := 36) dX8_tell_28 (by decide) (by omega) (fun c_28 => ?_) (fun c_28 => ?_)
      · refine z_aload_n (j := 1) dX8_tell_36 rfl rfl ?_
        refine z_iconst dX8_tell_37 ?_
        refine z_callVv (i := 0) (ci := 8) (As := [.int (iI 1)]) (rest := []) (c_X8_traced  hq ) dX8_tell_38 gX8_tell_X8_traced rfl cd_X8_traced ⟨Nat.le_of_ble_eq_true rfl, Nat.le_of_ble_eq_true rfl⟩ rfl rfl (by omega) rfl rfl rfl (Nat.le_of_ble_eq_true rfl) ⟨Nat.zero_le _, Nat.zero_le _⟩ (fun g_38 hp_38 => ?_)
        obtain ⟨mi_38, he_38, rfl⟩ := hp_38
        refine z_iload_n (j := 0) dX8_tell_41 rfl rfl ?_
        refine z_iconst dX8_tell_42 ?_
        refine z_icmp_ne (tgt := 51) dX8_tell_43 (by decide) (by omega) (by decide) (fun c_43 => ?_) (fun c_43 => ?_)
        · refine z_aload_n (j := 1) dX8_tell_51 rfl rfl ?_
          refine z_getf (i := 0) (ci := 8) (k := 4) (v := .ref (q 2)) dX8_tell_52 m_X8_tell_f13 in_X8_tell_X8 rfl (by decide) rfl (by omega) rfl rfl ?_
          refine z_iload_n (j := 2) dX8_tell_55 rfl rfl ?_
          refine z_iald (i := 2) (g := ma 2) 0 dX8_tell_56 (by omega) rfl rfl (by omega) (by omega) (by omega) ?_
          refine z_istore_n [(3, .int (iI (ma 2 z.toNat))), (2, .int (iI (ma 1 z.toNat))), (0, .ref (q 0)), (1, .int (iI z))] dX8_tell_57 rfl (by decide) rfl ?_
          refine z_iload_n (j := 1) dX8_tell_58 rfl rfl ?_
          refine z_if_ne (tgt := 66) dX8_tell_59 (by decide) (by omega) (fun c_59 => ?_) (fun c_59 => ?_)
          · refine z_iload_n (j := 1) dX8_tell_66 rfl rfl ?_
            refine z_iconst dX8_tell_67 ?_
            refine z_icmp_ne (tgt := 78) dX8_tell_68 (by decide) (by omega) (by decide) (fun c_68 => ?_) (fun c_68 => ?_)
            · refine z_iconst dX8_tell_78 ?_
              refine z_iload_n (j := 0) dX8_tell_79 rfl rfl ?_
              refine z_imul dX8_tell_80 ?_
              refine z_bipush dX8_tell_81 (by decide) ?_
              refine z_iadd dX8_tell_83 ?_
              exact z_iret dX8_tell_84 ⟨_, _, (by
      have hk1 : rK (aR (vM mi ma)) z.toNat = ma 1 z.toNat := nrm_in (by omega)
      have hm1 : rM (aR (vM mi ma)) z.toNat = ma 2 z.toNat := nrm_in (by omega)
      unfold spTell; rw [if_neg (show ¬ ¬ (0 ≤ z ∧ z < rN (aR (vM mi ma))) from not_not_intro (by rw [hnA]; omega)), hk1, hm1]
      first
        | exact absurd c_19 (by omega)
        | exact absurd c_28 (by omega)
        | exact absurd c_43 (by omega)
        | exact absurd c_59 (by omega)
        | exact absurd c_68 (by omega)
        | (rw [if_pos (by omega), he_48, he_38, he_33, he_24, up_s, bx_uu, up_s, bx_uu, up_s, bx_uu]; exact ⟨⟨rfl, vM_tr⟩, MOk_tr hO⟩)
        | (rw [if_neg (by omega), if_pos (by omega), he_38, he_33, up_s, bx_uu]; exact ⟨⟨rfl, vM_tr⟩, MOk_tr hO⟩)
        | (rw [if_neg (by omega), if_neg (by omega), he_38]; exact ⟨⟨rfl, vM_tr⟩, MOk_tr hO⟩)), rfl, rfl⟩
            · refine z_iload_n (j := 0) dX8_tell_71 rfl rfl ?_
              refine z_bipush dX8_tell_72 (by decide) ?_
              refine z_iadd dX8_tell_74 ?_
              refine z_goto (tgt := 84) dX8_tell_75 (by decide) ?_
              exact z_iret dX8_tell_84 ⟨_, _, (by
      have hk1 : rK (aR (vM mi ma)) z.toNat = ma 1 z.toNat := nrm_in (by omega)
      have hm1 : rM (aR (vM mi ma)) z.toNat = ma 2 z.toNat := nrm_in (by omega)
      unfold spTell; rw [if_neg (show ¬ ¬ (0 ≤ z ∧ z < rN (aR (vM mi ma))) from not_not_intro (by rw [hnA]; omega)), hk1, hm1]
      first
        | exact absurd c_19 (by omega)
        | exact absurd c_28 (by omega)
        | exact absurd c_43 (by omega)
        | exact absurd c_59 (by omega)
        | exact absurd c_68 (by omega)
        | (rw [if_pos (by omega), he_48, he_38, he_33, he_24, up_s, bx_uu, up_s, bx_uu, up_s, bx_uu]; exact ⟨⟨rfl, vM_tr⟩, MOk_tr hO⟩)
        | (rw [if_neg (by omega), if_pos (by omega), he_38, he_33, up_s, bx_uu]; exact ⟨⟨rfl, vM_tr⟩, MOk_tr hO⟩)
        | (rw [if_neg (by omega), if_neg (by omega), he_38]; exact ⟨⟨rfl, vM_tr⟩, MOk_tr hO⟩)), rfl, rfl⟩
          · refine z_iload_n (j := 0) dX8_tell_62 rfl rfl ?_
            refine z_goto (tgt := 84) dX8_tell_63 (by decide) ?_
            exact z_iret dX8_tell_84 ⟨_, _, (by
      have hk1 : rK (aR (vM mi ma)) z.toNat = ma 1 z.toNat := nrm_in (by omega)
      have hm1 : rM (aR (vM mi ma)) z.toNat = ma 2 z.toNat := nrm_in (by omega)
      unfold spTell; rw [if_neg (show ¬ ¬ (0 ≤ z ∧ z < rN (aR (vM mi ma))) from not_not_intro (by rw [hnA]; omega)), hk1, hm1]
      first
        | exact absurd c_19 (by omega)
        | exact absurd c_28 (by omega)
        | exact absurd c_43 (by omega)
        | exact absurd c_59 (by omega)
        | exact absurd c_68 (by omega)
        | (rw [if_pos (by omega), he_48, he_38, he_33, he_24, up_s, bx_uu, up_s, bx_uu, up_s, bx_uu]; exact ⟨⟨rfl, vM_tr⟩, MOk_tr hO⟩)
        | (rw [if_neg (by omega), if_pos (by omega), he_38, he_33, up_s, bx_uu]; exact ⟨⟨rfl, vM_tr⟩, MOk_tr hO⟩)
        | (rw [if_neg (by omega), if_neg (by omega), he_38]; exact ⟨⟨rfl, vM_tr⟩, MOk_tr hO⟩)), rfl, rfl⟩
        · refine z_aload_n (j := 1) dX8_tell_46 rfl rfl ?_
          refine z_iconst dX8_tell_47 ?_
          refine z_callVv (i := 0) (ci := 8) (As := [.int (iI 1)]) (rest := []) (c_X8_traced  hq ) dX8_tell_48 gX8_tell_X8_traced rfl cd_X8_traced ⟨Nat.le_of_ble_eq_true rfl, Nat.le_of_ble_eq_true rfl⟩ rfl rfl (by omega) rfl rfl rfl (Nat.le_of_ble_eq_true rfl) ⟨Nat.zero_le _, Nat.zero_le _⟩ (fun g_48 hp_48 => ?_)
          obtain ⟨mi_48, he_48, rfl⟩ := hp_48
          refine z_aload_n (j := 1) dX8_tell_51 rfl rfl ?_
          refine z_getf (i := 0) (ci := 8) (k := 4) (v := .ref (q 2)) dX8_tell_52 m_X8_tell_f13 in_X8_tell_X8 rfl (by decide) rfl (by omega) rfl rfl ?_
          refine z_iload_n (j := 2) dX8_tell_55 rfl rfl ?_
          refine z_iald (i := 2) (g := ma 2) 0 dX8_tell_56 (by omega) rfl rfl (by omega) (by omega) (by omega) ?_
          refine z_istore_n [(3, .int (iI (ma 2 z.toNat))), (2, .int (iI (ma 1 z.toNat))), (0, .ref (q 0)), (1, .int (iI z))] dX8_tell_57 rfl (by decide) rfl ?_
          refine z_iload_n (j := 1) dX8_tell_58 rfl rfl ?_
          refine z_if_ne (tgt := 66) dX8_tell_59 (by decide) (by omega) (fun c_59 => ?_) (fun c_59 => ?_)
          · refine z_iload_n (j := 1) dX8_tell_66 rfl rfl ?_
            refine z_iconst dX8_tell_67 ?_
            refine z_icmp_ne (tgt := 78) dX8_tell_68 (by decide) (by omega) (by decide) (fun c_68 => ?_) (fun c_68 => ?_)
            · refine z_iconst dX8_tell_78 ?_
              refine z_iload_n (j := 0) dX8_tell_79 rfl rfl ?_
              refine z_imul dX8_tell_80 ?_
              refine z_bipush dX8_tell_81 (by decide) ?_
              refine z_iadd dX8_tell_83 ?_
              exact z_iret dX8_tell_84 ⟨_, _, (by
      have hk1 : rK (aR (vM mi ma)) z.toNat = ma 1 z.toNat := nrm_in (by omega)
      have hm1 : rM (aR (vM mi ma)) z.toNat = ma 2 z.toNat := nrm_in (by omega)
      unfold spTell; rw [if_neg (show ¬ ¬ (0 ≤ z ∧ z < rN (aR (vM mi ma))) from not_not_intro (by rw [hnA]; omega)), hk1, hm1]
      first
        | exact absurd c_19 (by omega)
        | exact absurd c_28 (by omega)
        | exact absurd c_43 (by omega)
        | exact absurd c_59 (by omega)
        | exact absurd c_68 (by omega)
        | (rw [if_pos (by omega), he_48, he_38, he_33, he_24, up_s, bx_uu, up_s, bx_uu, up_s, bx_uu]; exact ⟨⟨rfl, vM_tr⟩, MOk_tr hO⟩)
        | (rw [if_neg (by omega), if_pos (by omega), he_38, he_33, up_s, bx_uu]; exact ⟨⟨rfl, vM_tr⟩, MOk_tr hO⟩)
        | (rw [if_neg (by omega), if_neg (by omega), he_38]; exact ⟨⟨rfl, vM_tr⟩, MOk_tr hO⟩)), rfl, rfl⟩
            · refine z_iload_n (j := 0) dX8_tell_71 rfl rfl ?_
              refine z_bipush dX8_tell_72 (by decide) ?_
              refine z_iadd dX8_tell_74 ?_
              refine z_goto (tgt := 84) dX8_tell_75 (by decide) ?_
              exact z_iret dX8_tell_84 ⟨_, _, (by
      have hk1 : rK (aR (vM mi ma)) z.toNat = ma 1 z.toNat := nrm_in (by omega)
      have hm1 : rM (aR (vM mi ma)) z.toNat = ma 2 z.toNat := nrm_in (by omega)
      unfold spTell; rw [if_neg (show ¬ ¬ (0 ≤ z ∧ z < rN (aR (vM mi ma))) from not_not_intro (by rw [hnA]; omega)), hk1, hm1]
      first
        | exact absurd c_19 (by omega)
        | exact absurd c_28 (by omega)
        | exact absurd c_43 (by omega)
        | exact absurd c_59 (by omega)
        | exact absurd c_68 (by omega)
        | (rw [if_pos (by omega), he_48, he_38, he_33, he_24, up_s, bx_uu, up_s, bx_uu, up_s, bx_uu]; exact ⟨⟨rfl, vM_tr⟩, MOk_tr hO⟩)
        | (rw [if_neg (by omega), if_pos (by omega), he_38, he_33, up_s, bx_uu]; exact ⟨⟨rfl, vM_tr⟩, MOk_tr hO⟩)
        | (rw [if_neg (by omega), if_neg (by omega), he_38]; exact ⟨⟨rfl, vM_tr⟩, MOk_tr hO⟩)), rfl, rfl⟩
          · refine z_iload_n (j := 0) dX8_tell_62 rfl rfl ?_
            refine z_goto (tgt := 84) dX8_tell_63 (by decide) ?_
            exact z_iret dX8_tell_84 ⟨_, _, (by
      have hk1 : rK (aR (vM mi ma)) z.toNat = ma 1 z.toNat := nrm_in (by omega)
      have hm1 : rM (aR (vM mi ma)) z.toNat = ma 2 z.toNat := nrm_in (by omega)
      unfold spTell; rw [if_neg (show ¬ ¬ (0 ≤ z ∧ z < rN (aR (vM mi ma))) from not_not_intro (by rw [hnA]; omega)), hk1, hm1]
      first
        | exact absurd c_19 (by omega)
        | exact absurd c_28 (by omega)
        | exact absurd c_43 (by omega)
        | exact absurd c_59 (by omega)
        | exact absurd c_68 (by omega)
        | (rw [if_pos (by omega), he_48, he_38, he_33, he_24, up_s, bx_uu, up_s, bx_uu, up_s, bx_uu]; exact ⟨⟨rfl, vM_tr⟩, MOk_tr hO⟩)
        | (rw [if_neg (by omega), if_pos (by omega), he_38, he_33, up_s, bx_uu]; exact ⟨⟨rfl, vM_tr⟩, MOk_tr hO⟩)
        | (rw [if_neg (by omega), if_neg (by omega), he_38]; exact ⟨⟨rfl, vM_tr⟩, MOk_tr hO⟩)), rfl, rfl⟩
      · refine z_aload_n (j := 1) dX8_tell_31 rfl rfl ?_
        refine z_iconst dX8_tell_32 ?_
        refine z_callVv (i := 0) (ci := 8) (As := [.int (iI 2)]) (rest := []) (c_X8_traced  hq ) dX8_tell_33 gX8_tell_X8_traced rfl cd_X8_traced ⟨Nat.le_of_ble_eq_true rfl, Nat.le_of_ble_eq_true rfl⟩ rfl rfl (by omega) rfl rfl rfl (Nat.le_of_ble_eq_true rfl) ⟨Nat.zero_le _, Nat.zero_le _⟩ (fun g_33 hp_33 => ?_)
        obtain ⟨mi_33, he_33, rfl⟩ := hp_33
        refine z_aload_n (j := 1) dX8_tell_36 rfl rfl ?_
        refine z_iconst dX8_tell_37 ?_
        refine z_callVv (i := 0) (ci := 8) (As := [.int (iI 1)]) (rest := []) (c_X8_traced  hq ) dX8_tell_38 gX8_tell_X8_traced rfl cd_X8_traced ⟨Nat.le_of_ble_eq_true rfl, Nat.le_of_ble_eq_true rfl⟩ rfl rfl (by omega) rfl rfl rfl (Nat.le_of_ble_eq_true rfl) ⟨Nat.zero_le _, Nat.zero_le _⟩ (fun g_38 hp_38 => ?_)
        obtain ⟨mi_38, he_38, rfl⟩ := hp_38
        refine z_iload_n (j := 0) dX8_tell_41 rfl rfl ?_
        refine z_iconst dX8_tell_42 ?_
        refine z_icmp_ne (tgt := 51) dX8_tell_43 (by decide) (by omega) (by decide) (fun c_43 => ?_) (fun c_43 => ?_)
        · refine z_aload_n (j := 1) dX8_tell_51 rfl rfl ?_
          refine z_getf (i := 0) (ci := 8) (k := 4) (v := .ref (q 2)) dX8_tell_52 m_X8_tell_f13 in_X8_tell_X8 rfl (by decide) rfl (by omega) rfl rfl ?_
          refine z_iload_n (j := 2) dX8_tell_55 rfl rfl ?_
          refine z_iald (i := 2) (g := ma 2) 0 dX8_tell_56 (by omega) rfl rfl (by omega) (by omega) (by omega) ?_
          refine z_istore_n [(3, .int (iI (ma 2 z.toNat))), (2, .int (iI (ma 1 z.toNat))), (0, .ref (q 0)), (1, .int (iI z))] dX8_tell_57 rfl (by decide) rfl ?_
          refine z_iload_n (j := 1) dX8_tell_58 rfl rfl ?_
          refine z_if_ne (tgt := 66) dX8_tell_59 (by decide) (by omega) (fun c_59 => ?_) (fun c_59 => ?_)
          · refine z_iload_n (j := 1) dX8_tell_66 rfl rfl ?_
            refine z_iconst dX8_tell_67 ?_
            refine z_icmp_ne (tgt := 78) dX8_tell_68 (by decide) (by omega) (by decide) (fun c_68 => ?_) (fun c_68 => ?_)
            · refine z_iconst dX8_tell_78 ?_
              refine z_iload_n (j := 0) dX8_tell_79 rfl rfl ?_
              refine z_imul dX8_tell_80 ?_
              refine z_bipush dX8_tell_81 (by decide) ?_
              refine z_iadd dX8_tell_83 ?_
              exact z_iret dX8_tell_84 ⟨_, _, (by
      have hk1 : rK (aR (vM mi ma)) z.toNat = ma 1 z.toNat := nrm_in (by omega)
      have hm1 : rM (aR (vM mi ma)) z.toNat = ma 2 z.toNat := nrm_in (by omega)
      unfold spTell; rw [if_neg (show ¬ ¬ (0 ≤ z ∧ z < rN (aR (vM mi ma))) from not_not_intro (by rw [hnA]; omega)), hk1, hm1]
      first
        | exact absurd c_19 (by omega)
        | exact absurd c_28 (by omega)
        | exact absurd c_43 (by omega)
        | exact absurd c_59 (by omega)
        | exact absurd c_68 (by omega)
        | (rw [if_pos (by omega), he_48, he_38, he_33, he_24, up_s, bx_uu, up_s, bx_uu, up_s, bx_uu]; exact ⟨⟨rfl, vM_tr⟩, MOk_tr hO⟩)
        | (rw [if_neg (by omega), if_pos (by omega), he_38, he_33, up_s, bx_uu]; exact ⟨⟨rfl, vM_tr⟩, MOk_tr hO⟩)
        | (rw [if_neg (by omega), if_neg (by omega), he_38]; exact ⟨⟨rfl, vM_tr⟩, MOk_tr hO⟩)), rfl, rfl⟩
            · refine z_iload_n (j := 0) dX8_tell_71 rfl rfl ?_
              refine z_bipush dX8_tell_72 (by decide) ?_
              refine z_iadd dX8_tell_74 ?_
              refine z_goto (tgt := 84) dX8_tell_75 (by decide) ?_
              exact z_iret dX8_tell_84 ⟨_, _, (by
      have hk1 : rK (aR (vM mi ma)) z.toNat = ma 1 z.toNat := nrm_in (by omega)
      have hm1 : rM (aR (vM mi ma)) z.toNat = ma 2 z.toNat := nrm_in (by omega)
      unfold spTell; rw [if_neg (show ¬ ¬ (0 ≤ z ∧ z < rN (aR (vM mi ma))) from not_not_intro (by rw [hnA]; omega)), hk1, hm1]
      first
        | exact absurd c_19 (by omega)
        | exact absurd c_28 (by omega)
        | exact absurd c_43 (by omega)
        | exact absurd c_59 (by omega)
        | exact absurd c_68 (by omega)
        | (rw [if_pos (by omega), he_48, he_38, he_33, he_24, up_s, bx_uu, up_s, bx_uu, up_s, bx_uu]; exact ⟨⟨rfl, vM_tr⟩, MOk_tr hO⟩)
        | (rw [if_neg (by omega), if_pos (by omega), he_38, he_33, up_s, bx_uu]; exact ⟨⟨rfl, vM_tr⟩, MOk_tr hO⟩)
        | (rw [if_neg (by omega), if_neg (by omega), he_38]; exact ⟨⟨rfl, vM_tr⟩, MOk_tr hO⟩)), rfl, rfl⟩
          · refine z_iload_n (j := 0) dX8_tell_62 rfl rfl ?_
            refine z_goto (tgt := 84) dX8_tell_63 (by decide) ?_
            exact z_iret dX8_tell_84 ⟨_, _, (by
      have hk1 : rK (aR (vM mi ma)) z.toNat = ma 1 z.toNat := nrm_in (by omega)
      have hm1 : rM (aR (vM mi ma)) z.toNat = ma 2 z.toNat := nrm_in (by omega)
      unfold spTell; rw [if_neg (show ¬ ¬ (0 ≤ z ∧ z < rN (aR (vM mi ma))) from not_not_intro (by rw [hnA]; omega)), hk1, hm1]
      first
        | exact absurd c_19 (by omega)
        | exact absurd c_28 (by omega)
        | exact absurd c_43 (by omega)
        | exact absurd c_59 (by omega)
        | exact absurd c_68 (by omega)
        | (rw [if_pos (by omega), he_48, he_38, he_33, he_24, up_s, bx_uu, up_s, bx_uu, up_s, bx_uu]; exact ⟨⟨rfl, vM_tr⟩, MOk_tr hO⟩)
        | (rw [if_neg (by omega), if_pos (by omega), he_38, he_33, up_s, bx_uu]; exact ⟨⟨rfl, vM_tr⟩, MOk_tr hO⟩)
        | (rw [if_neg (by omega), if_neg (by omega), he_38]; exact ⟨⟨rfl, vM_tr⟩, MOk_tr hO⟩)), rfl, rfl⟩
        · refine z_aload_n (j := 1) dX8_tell_46 rfl rfl ?_
          refine z_iconst dX8_tell_47 ?_
          refine z_callVv (i := 0) (ci := 8) (As := [.int (iI 1)]) (rest := []) (c_X8_traced  hq ) dX8_tell_48 gX8_tell_X8_traced rfl cd_X8_traced ⟨Nat.le_of_ble_eq_true rfl, Nat.le_of_ble_eq_true rfl⟩ rfl rfl (by omega) rfl rfl rfl (Nat.le_of_ble_eq_true rfl) ⟨Nat.zero_le _, Nat.zero_le _⟩ (fun g_48 hp_48 => ?_)
          obtain ⟨mi_48, he_48, rfl⟩ := hp_48
          refine z_aload_n (j := 1) dX8_tell_51 rfl rfl ?_
          refine z_getf (i := 0) (ci := 8) (k := 4) (v := .ref (q 2)) dX8_tell_52 m_X8_tell_f13 in_X8_tell_X8 rfl (by decide) rfl (by omega) rfl rfl ?_
          refine z_iload_n (j := 2) dX8_tell_55 rfl rfl ?_
          refine z_iald (i := 2) (g := ma 2) 0 dX8_tell_56 (by omega) rfl rfl (by omega) (by omega) (by omega) ?_
          refine z_istore_n [(3, .int (iI (ma 2 z.toNat))), (2, .int (iI (ma 1 z.toNat))), (0, .ref (q 0)), (1, .int (iI z))] dX8_tell_57 rfl (by decide) rfl ?_
          refine z_iload_n (j := 1) dX8_tell_58 rfl rfl ?_
          refine z_if_ne (tgt := 66) dX8_tell_59 (by decide) (by omega) (fun c_59 => ?_) (fun c_59 => ?_)
          · refine z_iload_n (j := 1) dX8_tell_66 rfl rfl ?_
            refine z_iconst dX8_tell_67 ?_
            refine z_icmp_ne (tgt := 78) dX8_tell_68 (by decide) (by omega) (by decide) (fun c_68 => ?_) (fun c_68 => ?_)
            · refine z_iconst dX8_tell_78 ?_
              refine z_iload_n (j := 0) dX8_tell_79 rfl rfl ?_
              refine z_imul dX8_tell_80 ?_
              refine z_bipush dX8_tell_81 (by decide) ?_
              refine z_iadd dX8_tell_83 ?_
              exact z_iret dX8_tell_84 ⟨_, _, (by
      have hk1 : rK (aR (vM mi ma)) z.toNat = ma 1 z.toNat := nrm_in (by omega)
      have hm1 : rM (aR (vM mi ma)) z.toNat = ma 2 z.toNat := nrm_in (by omega)
      unfold spTell; rw [if_neg (show ¬ ¬ (0 ≤ z ∧ z < rN (aR (vM mi ma))) from not_not_intro (by rw [hnA]; omega)), hk1, hm1]
      first
        | exact absurd c_19 (by omega)
        | exact absurd c_28 (by omega)
        | exact absurd c_43 (by omega)
        | exact absurd c_59 (by omega)
        | exact absurd c_68 (by omega)
        | (rw [if_pos (by omega), he_48, he_38, he_33, he_24, up_s, bx_uu, up_s, bx_uu, up_s, bx_uu]; exact ⟨⟨rfl, vM_tr⟩, MOk_tr hO⟩)
        | (rw [if_neg (by omega), if_pos (by omega), he_38, he_33, up_s, bx_uu]; exact ⟨⟨rfl, vM_tr⟩, MOk_tr hO⟩)
        | (rw [if_neg (by omega), if_neg (by omega), he_38]; exact ⟨⟨rfl, vM_tr⟩, MOk_tr hO⟩)), rfl, rfl⟩
            · refine z_iload_n (j := 0) dX8_tell_71 rfl rfl ?_
              refine z_bipush dX8_tell_72 (by decide) ?_
              refine z_iadd dX8_tell_74 ?_
              refine z_goto (tgt := 84) dX8_tell_75 (by decide) ?_
              exact z_iret dX8_tell_84 ⟨_, _, (by
      have hk1 : rK (aR (vM mi ma)) z.toNat = ma 1 z.toNat := nrm_in (by omega)
      have hm1 : rM (aR (vM mi ma)) z.toNat = ma 2 z.toNat := nrm_in (by omega)
      unfold spTell; rw [if_neg (show ¬ ¬ (0 ≤ z ∧ z < rN (aR (vM mi ma))) from not_not_intro (by rw [hnA]; omega)), hk1, hm1]
      first
        | exact absurd c_19 (by omega)
        | exact absurd c_28 (by omega)
        | exact absurd c_43 (by omega)
        | exact absurd c_59 (by omega)
        | exact absurd c_68 (by omega)
        | (rw [if_pos (by omega), he_48, he_38, he_33, he_24, up_s, bx_uu, up_s, bx_uu, up_s, bx_uu]; exact ⟨⟨rfl, vM_tr⟩, MOk_tr hO⟩)
        | (rw [if_neg (by omega), if_pos (by omega), he_38, he_33, up_s, bx_uu]; exact ⟨⟨rfl, vM_tr⟩, MOk_tr hO⟩)
        | (rw [if_neg (by omega), if_neg (by omega), he_38]; exact ⟨⟨rfl, vM_tr⟩, MOk_tr hO⟩)), rfl, rfl⟩
          · refine z_iload_n (j := 0) dX8_tell_62 rfl rfl ?_
            refine z_goto (tgt := 84) dX8_tell_63 (by decide) ?_
            exact z_iret dX8_tell_84 ⟨_, _, (by
      have hk1 : rK (aR (vM mi ma)) z.toNat = ma 1 z.toNat := nrm_in (by omega)
      have hm1 : rM (aR (vM mi ma)) z.toNat = ma 2 z.toNat := nrm_in (by omega)
      unfold spTell; rw [if_neg (show ¬ ¬ (0 ≤ z ∧ z < rN (aR (vM mi ma))) from not_not_intro (by rw [hnA]; omega)), hk1, hm1]
      first
        | exact absurd c_19 (by omega)
        | exact absurd c_28 (by omega)
        | exact absurd c_43 (by omega)
        | exact absurd c_59 (by omega)
        | exact absurd c_68 (by omega)
        | (rw [if_pos (by omega), he_48, he_38, he_33, he_24, up_s, bx_uu, up_s, bx_uu, up_s, bx_uu]; exact ⟨⟨rfl, vM_tr⟩, MOk_tr hO⟩)
        | (rw [if_neg (by omega), if_pos (by omega), he_38, he_33, up_s, bx_uu]; exact ⟨⟨rfl, vM_tr⟩, MOk_tr hO⟩)
        | (rw [if_neg (by omega), if_neg (by omega), he_38]; exact ⟨⟨rfl, vM_tr⟩, MOk_tr hO⟩)), rfl, rfl⟩
    · refine z_aload_n (j := 1) dX8_tell_22 rfl rfl ?_
      refine z_iconst dX8_tell_23 ?_
      refine z_callVv (i := 0) (ci := 8) (As := [.int (iI 3)]) (rest := []) (c_X8_traced  hq ) dX8_tell_24 gX8_tell_X8_traced rfl cd_X8_traced ⟨Nat.le_of_ble_eq_true rfl, Nat.le_of_ble_eq_true rfl⟩ rfl rfl (by omega) rfl rfl rfl (Nat.le_of_ble_eq_true rfl) ⟨Nat.zero_le _, Nat.zero_le _⟩ (fun g_24 hp_24 => ?_)
      obtain ⟨mi_24, he_24, rfl⟩ := hp_24
      refine z_iload_n (j := 0) dX8_tell_27 rfl rfl ?_
      refine z_if_le (tgt := 36) dX8_tell_28 (by decide) (by omega) (fun c_28 => ?_) (fun c_28 => ?_)
      · refine z_aload_n (j := 1) dX8_tell_36 rfl rfl ?_
        refine z_iconst dX8_tell_37 ?_
        refine z_callVv (i := 0) (ci := 8) (As := [.int (iI 1)]) (rest := []) (c_X8_traced  hq ) dX8_tell_38 gX8_tell_X8_traced rfl cd_X8_traced ⟨Nat.le_of_ble_eq_true rfl, Nat.le_of_ble_eq_true rfl⟩ rfl rfl (by omega) rfl rfl rfl (Nat.le_of_ble_eq_true rfl) ⟨Nat.zero_le _, Nat.zero_le _⟩ (fun g_38 hp_38 => ?_)
        obtain ⟨mi_38, he_38, rfl⟩ := hp_38
        refine z_iload_n (j := 0) dX8_tell_41 rfl rfl ?_
        refine z_iconst dX8_tell_42 ?_
        refine z_icmp_ne (tgt := 51) dX8_tell_43 (by decide) (by omega) (by decide) (fun c_43 => ?_) (fun c_43 => ?_)
        · refine z_aload_n (j := 1) dX8_tell_51 rfl rfl ?_
          refine z_getf (i := 0) (ci := 8) (k := 4) (v := .ref (q 2)) dX8_tell_52 m_X8_tell_f13 in_X8_tell_X8 rfl (by decide) rfl (by omega) rfl rfl ?_
          refine z_iload_n (j := 2) dX8_tell_55 rfl rfl ?_
          refine z_iald (i := 2) (g := ma 2) 0 dX8_tell_56 (by omega) rfl rfl (by omega) (by omega) (by omega) ?_
          refine z_istore_n [(3, .int (iI (ma 2 z.toNat))), (2, .int (iI (ma 1 z.toNat))), (0, .ref (q 0)), (1, .int (iI z))] dX8_tell_57 rfl (by decide) rfl ?_
          refine z_iload_n (j := 1) dX8_tell_58 rfl rfl ?_
          refine z_if_ne (tgt := 66) dX8_tell_59 (by decide) (by omega) (fun c_59 => ?_) (fun c_59 => ?_)
          · refine z_iload_n (j := 1) dX8_tell_66 rfl rfl ?_
            refine z_iconst dX8_tell_67 ?_
            refine z_icmp_ne (tgt := 78) dX8_tell_68 (by decide) (by omega) (by decide) (fun c_68 => ?_) (fun c_68 => ?_)
            · refine z_iconst dX8_tell_78 ?_
              refine z_iload_n (j := 0) dX8_tell_79 rfl rfl ?_
              refine z_imul dX8_tell_80 ?_
              refine z_bipush dX8_tell_81 (by decide) ?_
              refine z_iadd dX8_tell_83 ?_
              exact z_iret dX8_tell_84 ⟨_, _, (by
      have hk1 : rK (aR (vM mi ma)) z.toNat = ma 1 z.toNat := nrm_in (by omega)
      have hm1 : rM (aR (vM mi ma)) z.toNat = ma 2 z.toNat := nrm_in (by omega)
      unfold spTell; rw [if_neg (show ¬ ¬ (0 ≤ z ∧ z < rN (aR (vM mi ma))) from not_not_intro (by rw [hnA]; omega)), hk1, hm1]
      first
        | exact absurd c_19 (by omega)
        | exact absurd c_28 (by omega)
        | exact absurd c_43 (by omega)
        | exact absurd c_59 (by omega)
        | exact absurd c_68 (by omega)
        | (rw [if_pos (by omega), he_48, he_38, he_33, he_24, up_s, bx_uu, up_s, bx_uu, up_s, bx_uu]; exact ⟨⟨rfl, vM_tr⟩, MOk_tr hO⟩)
        | (rw [if_neg (by omega), if_pos (by omega), he_38, he_33, up_s, bx_uu]; exact ⟨⟨rfl, vM_tr⟩, MOk_tr hO⟩)
        | (rw [if_neg (by omega), if_neg (by omega), he_38]; exact ⟨⟨rfl, vM_tr⟩, MOk_tr hO⟩)), rfl, rfl⟩
            · refine z_iload_n (j := 0) dX8_tell_71 rfl rfl ?_
              refine z_bipush dX8_tell_72 (by decide) ?_
              refine z_iadd dX8_tell_74 ?_
              refine z_goto (tgt := 84) dX8_tell_75 (by decide) ?_
              exact z_iret dX8_tell_84 ⟨_, _, (by
      have hk1 : rK (aR (vM mi ma)) z.toNat = ma 1 z.toNat := nrm_in (by omega)
      have hm1 : rM (aR (vM mi ma)) z.toNat = ma 2 z.toNat := nrm_in (by omega)
      unfold spTell; rw [if_neg (show ¬ ¬ (0 ≤ z ∧ z < rN (aR (vM mi ma))) from not_not_intro (by rw [hnA]; omega)), hk1, hm1]
      first
        | exact absurd c_19 (by omega)
        | exact absurd c_28 (by omega)
        | exact absurd c_43 (by omega)
        | exact absurd c_59 (by omega)
        | exact absurd c_68 (by omega)
        | (rw [if_pos (by omega), he_48, he_38, he_33, he_24, up_s, bx_uu, up_s, bx_uu, up_s, bx_uu]; exact ⟨⟨rfl, vM_tr⟩, MOk_tr hO⟩)
        | (rw [if_neg (by omega), if_pos (by omega), he_38, he_33, up_s, bx_uu]; exact ⟨⟨rfl, vM_tr⟩, MOk_tr hO⟩)
        | (rw [if_neg (by omega), if_neg (by omega), he_38]; exact ⟨⟨rfl, vM_tr⟩, MOk_tr hO⟩)), rfl, rfl⟩
          · refine z_iload_n (j := 0) dX8_tell_62 rfl rfl ?_
            refine z_goto (tgt := 84) dX8_tell_63 (by decide) ?_
            exact z_iret dX8_tell_84 ⟨_, _, (by
      have hk1 : rK (aR (vM mi ma)) z.toNat = ma 1 z.toNat := nrm_in (by omega)
      have hm1 : rM (aR (vM mi ma)) z.toNat = ma 2 z.toNat := nrm_in (by omega)
      unfold spTell; rw [if_neg (show ¬ ¬ (0 ≤ z ∧ z < rN (aR (vM mi ma))) from not_not_intro (by rw [hnA]; omega)), hk1, hm1]
      first
        | exact absurd c_19 (by omega)
        | exact absurd c_28 (by omega)
        | exact absurd c_43 (by omega)
        | exact absurd c_59 (by omega)
        | exact absurd c_68 (by omega)
        | (rw [if_pos (by omega), he_48, he_38, he_33, he_24, up_s, bx_uu, up_s, bx_uu, up_s, bx_uu]; exact ⟨⟨rfl, vM_tr⟩, MOk_tr hO⟩)
        | (rw [if_neg (by omega), if_pos (by omega), he_38, he_33, up_s, bx_uu]; exact ⟨⟨rfl, vM_tr⟩, MOk_tr hO⟩)
        | (rw [if_neg (by omega), if_neg (by omega), he_38]; exact ⟨⟨rfl, vM_tr⟩, MOk_tr hO⟩)), rfl, rfl⟩
        · refine z_aload_n (j := 1) dX8_tell_46 rfl rfl ?_
          refine z_iconst dX8_tell_47 ?_
          refine z_callVv (i := 0) (ci := 8) (As := [.int (iI 1)]) (rest := []) (c_X8_traced  hq ) dX8_tell_48 gX8_tell_X8_traced rfl cd_X8_traced ⟨Nat.le_of_ble_eq_true rfl, Nat.le_of_ble_eq_true rfl⟩ rfl rfl (by omega) rfl rfl rfl (Nat.le_of_ble_eq_true rfl) ⟨Nat.zero_le _, Nat.zero_le _⟩ (fun g_48 hp_48 => ?_)
          obtain ⟨mi_48, he_48, rfl⟩ := hp_48
          refine z_aload_n (j := 1) dX8_tell_51 rfl rfl ?_
          refine z_getf (i := 0) (ci := 8) (k := 4) (v := .ref (q 2)) dX8_tell_52 m_X8_tell_f13 in_X8_tell_X8 rfl (by decide) rfl (by omega) rfl rfl ?_
          refine z_iload_n (j := 2) dX8_tell_55 rfl rfl ?_
          refine z_iald (i := 2) (g := ma 2) 0 dX8_tell_56 (by omega) rfl rfl (by omega) (by omega) (by omega) ?_
          refine z_istore_n [(3, .int (iI (ma 2 z.toNat))), (2, .int (iI (ma 1 z.toNat))), (0, .ref (q 0)), (1, .int (iI z))] dX8_tell_57 rfl (by decide) rfl ?_
          refine z_iload_n (j := 1) dX8_tell_58 rfl rfl ?_
          refine z_if_ne (tgt := 66) dX8_tell_59 (by decide) (by omega) (fun c_59 => ?_) (fun c_59 => ?_)
          · refine z_iload_n (j := 1) dX8_tell_66 rfl rfl ?_
            refine z_iconst dX8_tell_67 ?_
            refine z_icmp_ne (tgt := 78) dX8_tell_68 (by decide) (by omega) (by decide) (fun c_68 => ?_) (fun c_68 => ?_)
            · refine z_iconst dX8_tell_78 ?_
              refine z_iload_n (j := 0) dX8_tell_79 rfl rfl ?_
              refine z_imul dX8_tell_80 ?_
              refine z_bipush dX8_tell_81 (by decide) ?_
              refine z_iadd dX8_tell_83 ?_
              exact z_iret dX8_tell_84 ⟨_, _, (by
      have hk1 : rK (aR (vM mi ma)) z.toNat = ma 1 z.toNat := nrm_in (by omega)
      have hm1 : rM (aR (vM mi ma)) z.toNat = ma 2 z.toNat := nrm_in (by omega)
      unfold spTell; rw [if_neg (show ¬ ¬ (0 ≤ z ∧ z < rN (aR (vM mi ma))) from not_not_intro (by rw [hnA]; omega)), hk1, hm1]
      first
        | exact absurd c_19 (by omega)
        | exact absurd c_28 (by omega)
        | exact absurd c_43 (by omega)
        | exact absurd c_59 (by omega)
        | exact absurd c_68 (by omega)
        | (rw [if_pos (by omega), he_48, he_38, he_33, he_24, up_s, bx_uu, up_s, bx_uu, up_s, bx_uu]; exact ⟨⟨rfl, vM_tr⟩, MOk_tr hO⟩)
        | (rw [if_neg (by omega), if_pos (by omega), he_38, he_33, up_s, bx_uu]; exact ⟨⟨rfl, vM_tr⟩, MOk_tr hO⟩)
        | (rw [if_neg (by omega), if_neg (by omega), he_38]; exact ⟨⟨rfl, vM_tr⟩, MOk_tr hO⟩)), rfl, rfl⟩
            · refine z_iload_n (j := 0) dX8_tell_71 rfl rfl ?_
              refine z_bipush dX8_tell_72 (by decide) ?_
              refine z_iadd dX8_tell_74 ?_
              refine z_goto (tgt := 84) dX8_tell_75 (by decide) ?_
              exact z_iret dX8_tell_84 ⟨_, _, (by
      have hk1 : rK (aR (vM mi ma)) z.toNat = ma 1 z.toNat := nrm_in (by omega)
      have hm1 : rM (aR (vM mi ma)) z.toNat = ma 2 z.toNat := nrm_in (by omega)
      unfold spTell; rw [if_neg (show ¬ ¬ (0 ≤ z ∧ z < rN (aR (vM mi ma))) from not_not_intro (by rw [hnA]; omega)), hk1, hm1]
      first
        | exact absurd c_19 (by omega)
        | exact absurd c_28 (by omega)
        | exact absurd c_43 (by omega)
        | exact absurd c_59 (by omega)
        | exact absurd c_68 (by omega)
        | (rw [if_pos (by omega), he_48, he_38, he_33, he_24, up_s, bx_uu, up_s, bx_uu, up_s, bx_uu]; exact ⟨⟨rfl, vM_tr⟩, MOk_tr hO⟩)
        | (rw [if_neg (by omega), if_pos (by omega), he_38, he_33, up_s, bx_uu]; exact ⟨⟨rfl, vM_tr⟩, MOk_tr hO⟩)
        | (rw [if_neg (by omega), if_neg (by omega), he_38]; exact ⟨⟨rfl, vM_tr⟩, MOk_tr hO⟩)), rfl, rfl⟩
          · refine z_iload_n (j := 0) dX8_tell_62 rfl rfl ?_
            refine z_goto (tgt := 84) dX8_tell_63 (by decide) ?_
            exact z_iret dX8_tell_84 ⟨_, _, (by
      have hk1 : rK (aR (vM mi ma)) z.toNat = ma 1 z.toNat := nrm_in (by omega)
      have hm1 : rM (aR (vM mi ma)) z.toNat = ma 2 z.toNat := nrm_in (by omega)
      unfold spTell; rw [if_neg (show ¬ ¬ (0 ≤ z ∧ z < rN (aR (vM mi ma))) from not_not_intro (by rw [hnA]; omega)), hk1, hm1]
      first
        | exact absurd c_19 (by omega)
        | exact absurd c_28 (by omega)
        | exact absurd c_43 (by omega)
        | exact absurd c_59 (by omega)
        | exact absurd c_68 (by omega)
        | (rw [if_pos (by omega), he_48, he_38, he_33, he_24, up_s, bx_uu, up_s, bx_uu, up_s, bx_uu]; exact ⟨⟨rfl, vM_tr⟩, MOk_tr hO⟩)
        | (rw [if_neg (by omega), if_pos (by omega), he_38, he_33, up_s, bx_uu]; exact ⟨⟨rfl, vM_tr⟩, MOk_tr hO⟩)
        | (rw [if_neg (by omega), if_neg (by omega), he_38]; exact ⟨⟨rfl, vM_tr⟩, MOk_tr hO⟩)), rfl, rfl⟩
      · refine z_aload_n (j := 1) dX8_tell_31 rfl rfl ?_
        refine z_iconst dX8_tell_32 ?_
        refine z_callVv (i := 0) (ci := 8) (As := [.int (iI 2)]) (rest := []) (c_X8_traced  hq ) dX8_tell_33 gX8_tell_X8_traced rfl cd_X8_traced ⟨Nat.le_of_ble_eq_true rfl, Nat.le_of_ble_eq_true rfl⟩ rfl rfl (by omega) rfl rfl rfl (Nat.le_of_ble_eq_true rfl) ⟨Nat.zero_le _, Nat.zero_le _⟩ (fun g_33 hp_33 => ?_)
        obtain ⟨mi_33, he_33, rfl⟩ := hp_33
        refine z_aload_n (j := 1) dX8_tell_36 rfl rfl ?_
        refine z_iconst dX8_tell_37 ?_
        refine z_callVv (i := 0) (ci := 8) (As := [.int (iI 1)]) (rest := []) (c_X8_traced  hq ) dX8_tell_38 gX8_tell_X8_traced rfl cd_X8_traced ⟨Nat.le_of_ble_eq_true rfl, Nat.le_of_ble_eq_true rfl⟩ rfl rfl (by omega) rfl rfl rfl (Nat.le_of_ble_eq_true rfl) ⟨Nat.zero_le _, Nat.zero_le _⟩ (fun g_38 hp_38 => ?_)
        obtain ⟨mi_38, he_38, rfl⟩ := hp_38
        refine z_iload_n (j := 0) dX8_tell_41 rfl rfl ?_
        refine z_iconst dX8_tell_42 ?_
        refine z_icmp_ne (tgt := 51) dX8_tell_43 (by decide) (by omega) (by decide) (fun c_43 => ?_) (fun c_43 => ?_)
        · refine z_aload_n (j := 1) dX8_tell_51 rfl rfl ?_
          refine z_getf (i := 0) (ci := 8) (k := 4) (v := .ref (q 2)) dX8_tell_52 m_X8_tell_f13 in_X8_tell_X8 rfl (by decide) rfl (by omega) rfl rfl ?_
          refine z_iload_n (j := 2) dX8_tell_55 rfl rfl ?_
          refine z_iald (i := 2) (g := ma 2) 0 dX8_tell_56 (by omega) rfl rfl (by omega) (by omega) (by omega) ?_
          refine z_istore_n [(3, .int (iI (ma 2 z.toNat))), (2, .int (iI (ma 1 z.toNat))), (0, .ref (q 0)), (1, .int (iI z))] dX8_tell_57 rfl (by decide) rfl ?_
          refine z_iload_n (j := 1) dX8_tell_58 rfl rfl ?_
          refine z_if_ne (tgt := 66) dX8_tell_59 (by decide) (by omega) (fun c_59 => ?_) (fun c_59 => ?_)
          · refine z_iload_n (j := 1) dX8_tell_66 rfl rfl ?_
            refine z_iconst dX8_tell_67 ?_
            refine z_icmp_ne (tgt := 78) dX8_tell_68 (by decide) (by omega) (by decide) (fun c_68 => ?_) (fun c_68 => ?_)
            · refine z_iconst dX8_tell_78 ?_
              refine z_iload_n (j := 0) dX8_tell_79 rfl rfl ?_
              refine z_imul dX8_tell_80 ?_
              refine z_bipush dX8_tell_81 (by decide) ?_
              refine z_iadd dX8_tell_83 ?_
              exact z_iret dX8_tell_84 ⟨_, _, (by
      have hk1 : rK (aR (vM mi ma)) z.toNat = ma 1 z.toNat := nrm_in (by omega)
      have hm1 : rM (aR (vM mi ma)) z.toNat = ma 2 z.toNat := nrm_in (by omega)
      unfold spTell; rw [if_neg (show ¬ ¬ (0 ≤ z ∧ z < rN (aR (vM mi ma))) from not_not_intro (by rw [hnA]; omega)), hk1, hm1]
      first
        | exact absurd c_19 (by omega)
        | exact absurd c_28 (by omega)
        | exact absurd c_43 (by omega)
        | exact absurd c_59 (by omega)
        | exact absurd c_68 (by omega)
        | (rw [if_pos (by omega), he_48, he_38, he_33, he_24, up_s, bx_uu, up_s, bx_uu, up_s, bx_uu]; exact ⟨⟨rfl, vM_tr⟩, MOk_tr hO⟩)
        | (rw [if_neg (by omega), if_pos (by omega), he_38, he_33, up_s, bx_uu]; exact ⟨⟨rfl, vM_tr⟩, MOk_tr hO⟩)
        | (rw [if_neg (by omega), if_neg (by omega), he_38]; exact ⟨⟨rfl, vM_tr⟩, MOk_tr hO⟩)), rfl, rfl⟩
            · refine z_iload_n (j := 0) dX8_tell_71 rfl rfl ?_
              refine z_bipush dX8_tell_72 (by decide) ?_
              refine z_iadd dX8_tell_74 ?_
              refine z_goto (tgt := 84) dX8_tell_75 (by decide) ?_
              exact z_iret dX8_tell_84 ⟨_, _, (by
      have hk1 : rK (aR (vM mi ma)) z.toNat = ma 1 z.toNat := nrm_in (by omega)
      have hm1 : rM (aR (vM mi ma)) z.toNat = ma 2 z.toNat := nrm_in (by omega)
      unfold spTell; rw [if_neg (show ¬ ¬ (0 ≤ z ∧ z < rN (aR (vM mi ma))) from not_not_intro (by rw [hnA]; omega)), hk1, hm1]
      first
        | exact absurd c_19 (by omega)
        | exact absurd c_28 (by omega)
        | exact absurd c_43 (by omega)
        | exact absurd c_59 (by omega)
        | exact absurd c_68 (by omega)
        | (rw [if_pos (by omega), he_48, he_38, he_33, he_24, up_s, bx_uu, up_s, bx_uu, up_s, bx_uu]; exact ⟨⟨rfl, vM_tr⟩, MOk_tr hO⟩)
        | (rw [if_neg (by omega), if_pos (by omega), he_38, he_33, up_s, bx_uu]; exact ⟨⟨rfl, vM_tr⟩, MOk_tr hO⟩)
        | (rw [if_neg (by omega), if_neg (by omega), he_38]; exact ⟨⟨rfl, vM_tr⟩, MOk_tr hO⟩)), rfl, rfl⟩
          · refine z_iload_n (j := 0) dX8_tell_62 rfl rfl ?_
            refine z_goto (tgt := 84) dX8_tell_63 (by decide) ?_
            exact z_iret dX8_tell_84 ⟨_, _, (by
      have hk1 : rK (aR (vM mi ma)) z.toNat = ma 1 z.toNat := nrm_in (by omega)
      have hm1 : rM (aR (vM mi ma)) z.toNat = ma 2 z.toNat := nrm_in (by omega)
      unfold spTell; rw [if_neg (show ¬ ¬ (0 ≤ z ∧ z < rN (aR (vM mi ma))) from not_not_intro (by rw [hnA]; omega)), hk1, hm1]
      first
        | exact absurd c_19 (by omega)
        | exact absurd c_28 (by omega)
        | exact absurd c_43 (by omega)
        | exact absurd c_59 (by omega)
        | exact absurd c_68 (by omega)
        | (rw [if_pos (by omega), he_48, he_38, he_33, he_24, up_s, bx_uu, up_s, bx_uu, up_s, bx_uu]; exact ⟨⟨rfl, vM_tr⟩, MOk_tr hO⟩)
        | (rw [if_neg (by omega), if_pos (by omega), he_38, he_33, up_s, bx_uu]; exact ⟨⟨rfl, vM_tr⟩, MOk_tr hO⟩)
        | (rw [if_neg (by omega), if_neg (by omega), he_38]; exact ⟨⟨rfl, vM_tr⟩, MOk_tr hO⟩)), rfl, rfl⟩
        · refine z_aload_n (j := 1) dX8_tell_46 rfl rfl ?_
          refine z_iconst dX8_tell_47 ?_
          refine z_callVv (i := 0) (ci := 8) (As := [.int (iI 1)]) (rest := []) (c_X8_traced  hq ) dX8_tell_48 gX8_tell_X8_traced rfl cd_X8_traced ⟨Nat.le_of_ble_eq_true rfl, Nat.le_of_ble_eq_true rfl⟩ rfl rfl (by omega) rfl rfl rfl (Nat.le_of_ble_eq_true rfl) ⟨Nat.zero_le _, Nat.zero_le _⟩ (fun g_48 hp_48 => ?_)
          obtain ⟨mi_48, he_48, rfl⟩ := hp_48
          refine z_aload_n (j := 1) dX8_tell_51 rfl rfl ?_
          refine z_getf (i := 0) (ci := 8) (k := 4) (v := .ref (q 2)) dX8_tell_52 m_X8_tell_f13 in_X8_tell_X8 rfl (by decide) rfl (by omega) rfl rfl ?_
          refine z_iload_n (j := 2) dX8_tell_55 rfl rfl ?_
          refine z_iald (i := 2) (g := ma 2) 0 dX8_tell_56 (by omega) rfl rfl (by omega) (by omega) (by omega) ?_
          refine z_istore_n [(3, .int (iI (ma 2 z.toNat))), (2, .int (iI (ma 1 z.toNat))), (0, .ref (q 0)), (1, .int (iI z))] dX8_tell_57 rfl (by decide) rfl ?_
          refine z_iload_n (j := 1) dX8_tell_58 rfl rfl ?_
          refine z_if_ne (tgt := 66) dX8_tell_59 (by decide) (by omega) (fun c_59 => ?_) (fun c_59 => ?_)
          · refine z_iload_n (j := 1) dX8_tell_66 rfl rfl ?_
            refine z_iconst dX8_tell_67 ?_
            refine z_icmp_ne (tgt := 78) dX8_tell_68 (by decide) (by omega) (by decide) (fun c_68 => ?_) (fun c_68 => ?_)
            · refine z_iconst dX8_tell_78 ?_
              refine z_iload_n (j := 0) dX8_tell_79 rfl rfl ?_
              refine z_imul dX8_tell_80 ?_
              refine z_bipush dX8_tell_81 (by decide) ?_
              refine z_iadd dX8_tell_83 ?_
              exact z_iret dX8_tell_84 ⟨_, _, (by
      have hk1 : rK (aR (vM mi ma)) z.toNat = ma 1 z.toNat := nrm_in (by omega)
      have hm1 : rM (aR (vM mi ma)) z.toNat = ma 2 z.toNat := nrm_in (by omega)
      unfold spTell; rw [if_neg (show ¬ ¬ (0 ≤ z ∧ z < rN (aR (vM mi ma))) from not_not_intro (by rw [hnA]; omega)), hk1, hm1]
      first
        | exact absurd c_19 (by omega)
        | exact absurd c_28 (by omega)
        | exact absurd c_43 (by omega)
        | exact absurd c_59 (by omega)
        | exact absurd c_68 (by omega)
        | (rw [if_pos (by omega), he_48, he_38, he_33, he_24, up_s, bx_uu, up_s, bx_uu, up_s, bx_uu]; exact ⟨⟨rfl, vM_tr⟩, MOk_tr hO⟩)
        | (rw [if_neg (by omega), if_pos (by omega), he_38, he_33, up_s, bx_uu]; exact ⟨⟨rfl, vM_tr⟩, MOk_tr hO⟩)
        | (rw [if_neg (by omega), if_neg (by omega), he_38]; exact ⟨⟨rfl, vM_tr⟩, MOk_tr hO⟩)), rfl, rfl⟩
            · refine z_iload_n (j := 0) dX8_tell_71 rfl rfl ?_
              refine z_bipush dX8_tell_72 (by decide) ?_
              refine z_iadd dX8_tell_74 ?_
              refine z_goto (tgt := 84) dX8_tell_75 (by decide) ?_
              exact z_iret dX8_tell_84 ⟨_, _, (by
      have hk1 : rK (aR (vM mi ma)) z.toNat = ma 1 z.toNat := nrm_in (by omega)
      have hm1 : rM (aR (vM mi ma)) z.toNat = ma 2 z.toNat := nrm_in (by omega)
      unfold spTell; rw [if_neg (show ¬ ¬ (0 ≤ z ∧ z < rN (aR (vM mi ma))) from not_not_intro (by rw [hnA]; omega)), hk1, hm1]
      first
        | exact absurd c_19 (by omega)
        | exact absurd c_28 (by omega)
        | exact absurd c_43 (by omega)
        | exact absurd c_59 (by omega)
        | exact absurd c_68 (by omega)
        | (rw [if_pos (by omega), he_48, he_38, he_33, he_24, up_s, bx_uu, up_s, bx_uu, up_s, bx_uu]; exact ⟨⟨rfl, vM_tr⟩, MOk_tr hO⟩)
        | (rw [if_neg (by omega), if_pos (by omega), he_38, he_33, up_s, bx_uu]; exact ⟨⟨rfl, vM_tr⟩, MOk_tr hO⟩)
        | (rw [if_neg (by omega), if_neg (by omega), he_38]; exact ⟨⟨rfl, vM_tr⟩, MOk_tr hO⟩)), rfl, rfl⟩
          · refine z_iload_n (j := 0) dX8_tell_62 rfl rfl ?_
            refine z_goto (tgt := 84) dX8_tell_63 (by decide) ?_
            exact z_iret dX8_tell_84 ⟨_, _, (by
      have hk1 : rK (aR (vM mi ma)) z.toNat = ma 1 z.toNat := nrm_in (by omega)
      have hm1 : rM (aR (vM mi ma)) z.toNat = ma 2 z.toNat := nrm_in (by omega)
      unfold spTell; rw [if_neg (show ¬ ¬ (0 ≤ z ∧ z < rN (aR (vM mi ma))) from not_not_intro (by rw [hnA]; omega)), hk1, hm1]
      first
        | exact absurd c_19 (by omega)
        | exact absurd c_28 (by omega)
        | exact absurd c_43 (by omega)
        | exact absurd c_59 (by omega)
        | exact absurd c_68 (by omega)
        | (rw [if_pos (by omega), he_48, he_38, he_33, he_24, up_s, bx_uu, up_s, bx_uu, up_s, bx_uu]; exact ⟨⟨rfl, vM_tr⟩, MOk_tr hO⟩)
        | (rw [if_neg (by omega), if_pos (by omega), he_38, he_33, up_s, bx_uu]; exact ⟨⟨rfl, vM_tr⟩, MOk_tr hO⟩)
        | (rw [if_neg (by omega), if_neg (by omega), he_38]; exact ⟨⟨rfl, vM_tr⟩, MOk_tr hO⟩)), rfl, rfl⟩
theorem m_X8_sound_f7 : Cond.fieldLink RX8 7 "PoleBehindModel" "kindOf" "[I" ∈ wsX8_sound := List.mem_of_getElem? (i := 1) rfl
theorem in_X8_sound_X8 : ∀ w ∈ wsX80, w ∈ wsX8_sound := fun _ h => List.mem_cons_of_mem _ (List.mem_append_right _ h)
set_option maxHeartbeats 400000 in
set_option maxRecDepth 100000 in
theorem c_X8_sound {l : Launch} {D : va_G} {cI cJ cZ cR : ClassId} {q : Nat → Nat} {mi : Nat → Int} {ma : Nat → Nat → Int} (hq : qOk 18 q) {z : Int} (hO : MOk mi ma) (hz : -2147483648 ≤ z ∧ z < 2147483648) : Cti l D vwCl (tysC cI cJ cZ cR) 18 q yX8_sound wsX8_sound ({ frames := 2, cells := 0, slots := 0, locals := 46 } : Room) [.ref (q 0), .int (iI z)] (cM cI cJ cZ q mi ma) (fun (r : Int32) (g : Nat → va_E) => ∃ (e : Int) (mi' : Nat → Int), (spSound (vM mi ma) z e (vM mi' ma) ∧ MOk mi' ma) ∧ r = iI e ∧ g = (cM cI cJ cZ q mi' ma)) := by
  refine Cti.of (cc := cX8_sound) (nL := 2) (own := RX8) (ret := (some .int)) (by decide) rfl rfl hq (Nat.le_of_ble_eq_true rfl) (fun p e s m args below meth c => ?_)
  obtain ⟨hR, hn2, hQ, hSh, hSn, hHd, hRdg, hfa⟩ := id hO
  obtain ⟨hN, hP, hK, hM, hD, hB⟩ := id hR
  have hRM := MRv_M hR
  have hnn : rN (rvM mi ma) = mi 1 := rfl
  have hnA : rN (aR (vM mi ma)) = mi 1 := rfl
  have hkz := hK z.toNat
  refine z_aload_n (j := 0) dX8_sound_0 rfl rfl ?_
  refine z_iload_n (j := 1) dX8_sound_1 rfl rfl ?_
  refine z_callVi (i := 0) (ci := 8) (As := [.int (iI z)]) (rest := []) (c_X8_noPlace  hq hR (by omega)) dX8_sound_2 gX8_sound_X8_noPlace rfl cd_X8_noPlace ⟨Nat.le_of_ble_eq_true rfl, Nat.le_of_ble_eq_true rfl⟩ rfl rfl (by omega) rfl rfl rfl (Nat.le_of_ble_eq_true rfl) ⟨Nat.zero_le _, Nat.zero_le _⟩ (fun r_2 g_2 hp_2 => ?_)
  obtain ⟨⟨h_2, rfl⟩ | ⟨h_2, rfl⟩, rfl⟩ := hp_2
  · refine z_if_eq (tgt := 10) dX8_sound_5 (by decide) (by decide) (fun h => absurd h (by decide)) (fun _ => ?_)
    refine z_iconst dX8_sound_8 ?_
    exact z_iret dX8_sound_9 ⟨_, _, (by unfold spSound; rw [if_pos (show ¬ (0 ≤ z ∧ z < rN (aR (vM mi ma))) by rw [hnA]; omega)]; exact ⟨⟨rfl, rfl⟩, hO⟩), rfl, rfl⟩
  · refine z_if_eq (tgt := 10) dX8_sound_5 (by decide) (by decide) (fun _ => ?_) (fun h => absurd h (by decide))
    refine z_aload_n (j := 0) dX8_sound_10 rfl rfl ?_
    refine z_aload_n (j := 0) dX8_sound_11 rfl rfl ?_
    refine z_getf (i := 0) (ci := 8) (k := 3) (v := .ref (q 1)) dX8_sound_12 m_X8_sound_f7 in_X8_sound_X8 rfl (by decide) rfl (by omega) rfl rfl ?_
    refine z_iload_n (j := 1) dX8_sound_15 rfl rfl ?_
    refine z_iald (i := 1) (g := ma 1) 0 dX8_sound_16 (by omega) rfl rfl (by omega) (by omega) (by omega) ?_
    refine z_iconst dX8_sound_17 ?_
    refine z_icmp_ne (tgt := 25) dX8_sound_18 (by decide) (by omega) (by decide) (fun c_18 => ?_) (fun c_18 => ?_)
    · refine z_iconst dX8_sound_25 ?_
      refine z_callVv (i := 0) (ci := 8) (As := [.int (iI 4)]) (rest := []) (c_X8_traced  hq ) dX8_sound_26 gX8_sound_X8_traced rfl cd_X8_traced ⟨Nat.le_of_ble_eq_true rfl, Nat.le_of_ble_eq_true rfl⟩ rfl rfl (by omega) rfl rfl rfl (Nat.le_of_ble_eq_true rfl) ⟨Nat.zero_le _, Nat.zero_le _⟩ (fun g_26 hp_26 => ?_)
      obtain ⟨mi_26, he_26, rfl⟩ := hp_26
      refine z_aload_n (j := 0) dX8_sound_29 rfl rfl ?_
      refine z_getf (i := 0) (ci := 8) (k := 3) (v := .ref (q 1)) dX8_sound_30 m_X8_sound_f7 in_X8_sound_X8 rfl (by decide) rfl (by omega) rfl rfl ?_
      refine z_iload_n (j := 1) dX8_sound_33 rfl rfl ?_
      refine z_iald (i := 1) (g := ma 1) 0 dX8_sound_34 (by omega) rfl rfl (by omega) (by omega) (by omega) ?_
      refine z_iconst dX8_sound_35 ?_
      refine z_icmp_ne (tgt := 44) dX8_sound_36 (by decide) (by omega) (by decide) (fun c_36 => ?_) (fun c_36 => ?_)
      · refine z_iload_n (j := 1) dX8_sound_44 rfl rfl ?_
        exact z_iret dX8_sound_45 ⟨_, _, (by
      have hk1 : rK (aR (vM mi ma)) z.toNat = ma 1 z.toNat := nrm_in (by omega)
      unfold spSound; rw [if_neg (show ¬ ¬ (0 ≤ z ∧ z < rN (aR (vM mi ma))) from not_not_intro (by rw [hnA]; omega)), hk1]
      first
        | exact absurd c_18 c_36
        | exact absurd c_36 c_18
        | (rw [if_pos (by omega), he_26]; exact ⟨⟨rfl, vM_tr⟩, MOk_tr hO⟩)
        | (rw [if_neg (by omega), he_26]; exact ⟨⟨rfl, vM_tr⟩, MOk_tr hO⟩)), rfl, rfl⟩
      · refine z_bipush dX8_sound_39 (by decide) ?_
        refine z_goto (tgt := 45) dX8_sound_41 (by decide) ?_
        exact z_iret dX8_sound_45 ⟨_, _, (by
      have hk1 : rK (aR (vM mi ma)) z.toNat = ma 1 z.toNat := nrm_in (by omega)
      unfold spSound; rw [if_neg (show ¬ ¬ (0 ≤ z ∧ z < rN (aR (vM mi ma))) from not_not_intro (by rw [hnA]; omega)), hk1]
      first
        | exact absurd c_18 c_36
        | exact absurd c_36 c_18
        | (rw [if_pos (by omega), he_26]; exact ⟨⟨rfl, vM_tr⟩, MOk_tr hO⟩)
        | (rw [if_neg (by omega), he_26]; exact ⟨⟨rfl, vM_tr⟩, MOk_tr hO⟩)), rfl, rfl⟩
    · refine z_iconst dX8_sound_21 ?_
      refine z_goto (tgt := 26) dX8_sound_22 (by decide) ?_
      refine z_callVv (i := 0) (ci := 8) (As := [.int (iI 5)]) (rest := []) (c_X8_traced  hq ) dX8_sound_26 gX8_sound_X8_traced rfl cd_X8_traced ⟨Nat.le_of_ble_eq_true rfl, Nat.le_of_ble_eq_true rfl⟩ rfl rfl (by omega) rfl rfl rfl (Nat.le_of_ble_eq_true rfl) ⟨Nat.zero_le _, Nat.zero_le _⟩ (fun g_26 hp_26 => ?_)
      obtain ⟨mi_26, he_26, rfl⟩ := hp_26
      refine z_aload_n (j := 0) dX8_sound_29 rfl rfl ?_
      refine z_getf (i := 0) (ci := 8) (k := 3) (v := .ref (q 1)) dX8_sound_30 m_X8_sound_f7 in_X8_sound_X8 rfl (by decide) rfl (by omega) rfl rfl ?_
      refine z_iload_n (j := 1) dX8_sound_33 rfl rfl ?_
      refine z_iald (i := 1) (g := ma 1) 0 dX8_sound_34 (by omega) rfl rfl (by omega) (by omega) (by omega) ?_
      refine z_iconst dX8_sound_35 ?_
      refine z_icmp_ne (tgt := 44) dX8_sound_36 (by decide) (by omega) (by decide) (fun c_36 => ?_) (fun c_36 => ?_)
      · refine z_iload_n (j := 1) dX8_sound_44 rfl rfl ?_
        exact z_iret dX8_sound_45 ⟨_, _, (by
      have hk1 : rK (aR (vM mi ma)) z.toNat = ma 1 z.toNat := nrm_in (by omega)
      unfold spSound; rw [if_neg (show ¬ ¬ (0 ≤ z ∧ z < rN (aR (vM mi ma))) from not_not_intro (by rw [hnA]; omega)), hk1]
      first
        | exact absurd c_18 c_36
        | exact absurd c_36 c_18
        | (rw [if_pos (by omega), he_26]; exact ⟨⟨rfl, vM_tr⟩, MOk_tr hO⟩)
        | (rw [if_neg (by omega), he_26]; exact ⟨⟨rfl, vM_tr⟩, MOk_tr hO⟩)), rfl, rfl⟩
      · refine z_bipush dX8_sound_39 (by decide) ?_
        refine z_goto (tgt := 45) dX8_sound_41 (by decide) ?_
        exact z_iret dX8_sound_45 ⟨_, _, (by
      have hk1 : rK (aR (vM mi ma)) z.toNat = ma 1 z.toNat := nrm_in (by omega)
      unfold spSound; rw [if_neg (show ¬ ¬ (0 ≤ z ∧ z < rN (aR (vM mi ma))) from not_not_intro (by rw [hnA]; omega)), hk1]
      first
        | exact absurd c_18 c_36
        | exact absurd c_36 c_18
        | (rw [if_pos (by omega), he_26]; exact ⟨⟨rfl, vM_tr⟩, MOk_tr hO⟩)
        | (rw [if_neg (by omega), he_26]; exact ⟨⟨rfl, vM_tr⟩, MOk_tr hO⟩)), rfl, rfl⟩
theorem cd_X8_refused : yX8_refused.cls = RX8 ∧ yX8_refused.cls ≠ "java/lang/invoke/MethodHandle" ∧ yX8_refused.cls ≠ "java/lang/invoke/VarHandle" ∧ (parseMethodDescriptor yX8_refused.desc).map (fun d => d.parameters.length) = some 1 := ⟨rfl, by decide +kernel, by decide +kernel, by decide +kernel⟩
theorem m_X8_as_C118 : Cond.constantLong RX8 118 (lI (2)) ∈ wsX8_as := List.mem_of_getElem? (i := 1) (by decide +kernel)
theorem m_X8_as_f7 : Cond.fieldLink RX8 7 "PoleBehindModel" "kindOf" "[I" ∈ wsX8_as := List.mem_of_getElem? (i := 2) rfl
theorem in_X8_as_X8 : ∀ w ∈ wsX80, w ∈ wsX8_as := fun _ h => List.mem_cons_of_mem _ (List.mem_append_right _ h)
theorem cd_X8_failed : yX8_failed.cls = RX8 ∧ yX8_failed.cls ≠ "java/lang/invoke/MethodHandle" ∧ yX8_failed.cls ≠ "java/lang/invoke/VarHandle" ∧ (parseMethodDescriptor yX8_failed.desc).map (fun d => d.parameters.length) = some 1 := ⟨rfl, by decide +kernel, by decide +kernel, by decide +kernel⟩
set_option maxHeartbeats 400000 in
set_option maxRecDepth 100000 in
theorem c_X8_as {l : Launch} {D : va_G} {cI cJ cZ cR : ClassId} {q : Nat → Nat} {mi : Nat → Int} {ma : Nat → Nat → Int} (hq : qOk 18 q) {z kk : Int} (hO : MOk mi ma) (hz : -2147483648 ≤ z ∧ z < 2147483648) (hk : -2147483648 ≤ kk ∧ kk < 2147483648) : Cti l D vwCl (tysC cI cJ cZ cR) 18 q yX8_as wsX8_as ({ frames := 2, cells := 0, slots := 0, locals := 46 } : Room) [.ref (q 0), .int (iI z), .int (iI kk)] (cM cI cJ cZ q mi ma) (fun (r : Int32) (g : Nat → va_E) => ∃ (e : Int) (mi' : Nat → Int), (spAs (vM mi ma) z kk e (vM mi' ma) ∧ MOk mi' ma) ∧ r = iI e ∧ g = (cM cI cJ cZ q mi' ma)) := by
  refine Cti.of (cc := cX8_as) (nL := 3) (own := RX8) (ret := (some .int)) (by decide) rfl rfl hq (Nat.le_of_ble_eq_true rfl) (fun p e s m args below meth c => ?_)
  obtain ⟨hR, hn2, hQ, hSh, hSn, hHd, hRdg, hfa⟩ := id hO
  obtain ⟨hN, hP, hK, hM, hD, hB⟩ := id hR
  have hRM := MRv_M hR
  have hnn : rN (rvM mi ma) = mi 1 := rfl
  have hnA : rN (aR (vM mi ma)) = mi 1 := rfl
  have hkz := hK z.toNat
  refine z_aload_n (j := 0) dX8_as_0 rfl rfl ?_
  refine z_iload_n (j := 1) dX8_as_1 rfl rfl ?_
  refine z_callVi (i := 0) (ci := 8) (As := [.int (iI z)]) (rest := []) (c_X8_noPlace  hq hR (by omega)) dX8_as_2 gX8_as_X8_noPlace rfl cd_X8_noPlace ⟨Nat.le_of_ble_eq_true rfl, Nat.le_of_ble_eq_true rfl⟩ rfl rfl (by omega) rfl rfl rfl (Nat.le_of_ble_eq_true rfl) ⟨Nat.zero_le _, Nat.zero_le _⟩ (fun r_2 g_2 hp_2 => ?_)
  obtain ⟨⟨h_2, rfl⟩ | ⟨h_2, rfl⟩, rfl⟩ := hp_2
  · refine z_if_eq (tgt := 14) dX8_as_5 (by decide) (by decide) (fun h => absurd h (by decide)) (fun _ => ?_)
    refine z_aload_n (j := 0) dX8_as_8 rfl rfl ?_
    refine z_iconst dX8_as_9 ?_
    refine z_callVi (i := 0) (ci := 8) (As := [.int (iI (-1))]) (rest := []) (c_X8_refused  hq ) dX8_as_10 gX8_as_X8_refused rfl cd_X8_refused ⟨Nat.le_of_ble_eq_true rfl, Nat.le_of_ble_eq_true rfl⟩ rfl rfl (by omega) rfl rfl rfl (Nat.le_of_ble_eq_true rfl) ⟨Nat.zero_le _, Nat.zero_le _⟩ (fun r_10 g_10 hp_10 => ?_)
    obtain ⟨e_10, mi_10, he_10, rfl, rfl⟩ := hp_10
    exact z_iret dX8_as_13 ⟨_, _, (by unfold spAs; rw [if_pos (show ¬ (0 ≤ z ∧ z < rN (aR (vM mi ma))) by rw [hnA]; omega), he_10.2]; exact ⟨⟨he_10.1, vM_fa⟩, MOk_fa hO (by omega)⟩), rfl, rfl⟩
  · refine z_if_eq (tgt := 14) dX8_as_5 (by decide) (by decide) (fun _ => ?_) (fun h => absurd h (by decide))
    refine z_iload_n (j := 2) dX8_as_14 rfl rfl ?_
    refine z_i2l dX8_as_15 (by omega) ?_
    refine z_lconst (z := 0) dX8_as_16 (by decide) ?_
    refine z_ldc2 dX8_as_17 m_X8_as_C118 ?_
    refine z_callSi (As := [.long (lI kk), .long (lI 0), .long (lI 2)]) (rest := []) (c_X8_in  hq (by omega) (by omega) (by omega)) dX8_as_20 gX8_as_X8_in rfl cd_X8_in ⟨Nat.le_of_ble_eq_true rfl, Nat.le_of_ble_eq_true rfl⟩ rfl rfl rfl (Nat.le_of_ble_eq_true rfl) ⟨Nat.zero_le _, Nat.zero_le _⟩ (fun r_20 g_20 hp_20 => ?_)
    obtain ⟨⟨h_20, rfl⟩ | ⟨h_20, rfl⟩, rfl⟩ := hp_20
    · refine z_if_ne (tgt := 33) dX8_as_23 (by decide) (by decide) (fun _ => ?_) (fun h => absurd h (by decide))
      refine z_aload_n (j := 0) dX8_as_33 rfl rfl ?_
      refine z_getf (i := 0) (ci := 8) (k := 3) (v := .ref (q 1)) dX8_as_34 m_X8_as_f7 in_X8_as_X8 rfl (by decide) rfl (by omega) rfl rfl ?_
      refine z_iload_n (j := 1) dX8_as_37 rfl rfl ?_
      refine z_iald (i := 1) (g := ma 1) 0 dX8_as_38 (by omega) rfl rfl (by omega) (by omega) (by omega) ?_
      refine z_iload_n (j := 2) dX8_as_39 rfl rfl ?_
      refine z_icmp_lt (tgt := 51) dX8_as_40 (by decide) (by omega) (by omega) (fun c_40 => ?_) (fun c_40 => ?_)
      · refine z_aload_n (j := 0) dX8_as_51 rfl rfl ?_
        refine z_iconst dX8_as_52 ?_
        refine z_callVi (i := 0) (ci := 8) (As := [.int (iI 2)]) (rest := []) (c_X8_failed  hq ) dX8_as_53 gX8_as_X8_failed rfl cd_X8_failed ⟨Nat.le_of_ble_eq_true rfl, Nat.le_of_ble_eq_true rfl⟩ rfl rfl (by omega) rfl rfl rfl (Nat.le_of_ble_eq_true rfl) ⟨Nat.zero_le _, Nat.zero_le _⟩ (fun r_53 g_53 hp_53 => ?_)
        obtain ⟨e_53, mi_53, he_53, rfl, rfl⟩ := hp_53
        exact z_iret dX8_as_56 ⟨_, _, (by
      have hk1 : rK (aR (vM mi ma)) z.toNat = ma 1 z.toNat := nrm_in (by omega)
      unfold spAs; rw [if_neg (show ¬ ¬ (0 ≤ z ∧ z < rN (aR (vM mi ma))) from not_not_intro (by rw [hnA]; omega)), if_neg (by omega), hk1]
      first
        | (rw [if_pos (by omega), he_45.2]; exact ⟨⟨he_45.1, vM_fa⟩, MOk_fa hO (by omega)⟩)
        | (rw [if_neg (by omega), he_53.2]; exact ⟨⟨he_53.1, vM_fa⟩, MOk_fa hO (by omega)⟩)), rfl, rfl⟩
      · refine z_aload_n (j := 0) dX8_as_43 rfl rfl ?_
        refine z_iconst dX8_as_44 ?_
        refine z_callVi (i := 0) (ci := 8) (As := [.int (iI 1)]) (rest := []) (c_X8_refused  hq ) dX8_as_45 gX8_as_X8_refused rfl cd_X8_refused ⟨Nat.le_of_ble_eq_true rfl, Nat.le_of_ble_eq_true rfl⟩ rfl rfl (by omega) rfl rfl rfl (Nat.le_of_ble_eq_true rfl) ⟨Nat.zero_le _, Nat.zero_le _⟩ (fun r_45 g_45 hp_45 => ?_)
        obtain ⟨e_45, mi_45, he_45, rfl, rfl⟩ := hp_45
        refine z_goto (tgt := 56) dX8_as_48 (by decide) ?_
        exact z_iret dX8_as_56 ⟨_, _, (by
      have hk1 : rK (aR (vM mi ma)) z.toNat = ma 1 z.toNat := nrm_in (by omega)
      unfold spAs; rw [if_neg (show ¬ ¬ (0 ≤ z ∧ z < rN (aR (vM mi ma))) from not_not_intro (by rw [hnA]; omega)), if_neg (by omega), hk1]
      first
        | (rw [if_pos (by omega), he_45.2]; exact ⟨⟨he_45.1, vM_fa⟩, MOk_fa hO (by omega)⟩)
        | (rw [if_neg (by omega), he_53.2]; exact ⟨⟨he_53.1, vM_fa⟩, MOk_fa hO (by omega)⟩)), rfl, rfl⟩
    · refine z_if_ne (tgt := 33) dX8_as_23 (by decide) (by decide) (fun h => absurd h (by decide)) (fun _ => ?_)
      refine z_aload_n (j := 0) dX8_as_26 rfl rfl ?_
      refine z_bipush dX8_as_27 (by decide) ?_
      refine z_callVi (i := 0) (ci := 8) (As := [.int (iI (-2))]) (rest := []) (c_X8_refused  hq ) dX8_as_29 gX8_as_X8_refused rfl cd_X8_refused ⟨Nat.le_of_ble_eq_true rfl, Nat.le_of_ble_eq_true rfl⟩ rfl rfl (by omega) rfl rfl rfl (Nat.le_of_ble_eq_true rfl) ⟨Nat.zero_le _, Nat.zero_le _⟩ (fun r_29 g_29 hp_29 => ?_)
      obtain ⟨e_29, mi_29, he_29, rfl, rfl⟩ := hp_29
      exact z_iret dX8_as_32 ⟨_, _, (by unfold spAs; rw [if_neg (show ¬ ¬ (0 ≤ z ∧ z < rN (aR (vM mi ma))) from not_not_intro (by rw [hnA]; omega)), if_pos (by omega), he_29.2]; exact ⟨⟨he_29.1, vM_fa⟩, MOk_fa hO (by omega)⟩), rfl, rfl⟩
