theorem m_X8_cellsBarred_f51 : Cond.fieldLink RX8 51 "PoleBehindModel" "sheetSize" "[I" ∈ wsX8_cellsBarred := List.mem_of_getElem? (i := 1) rfl
theorem in_X8_cellsBarred_X8 : ∀ w ∈ wsX80, w ∈ wsX8_cellsBarred := fun _ h => List.mem_cons_of_mem _ (List.mem_append_right _ h)
theorem cd_X8_isBeyond : yX8_isBeyond.cls ≠ "java/lang/invoke/MethodHandle" ∧ yX8_isBeyond.cls ≠ "java/lang/invoke/VarHandle" ∧ (parseMethodDescriptor yX8_isBeyond.desc).map (fun d => d.parameters.length) = some 3 := ⟨by decide +kernel, by decide +kernel, by decide +kernel⟩
theorem m_X8_cellsBarred_f54 : Cond.fieldLink RX8 54 "PoleBehindModel" "sheetLane" "[I" ∈ wsX8_cellsBarred := List.mem_of_getElem? (i := 2) rfl
set_option maxHeartbeats 400000 in
set_option maxRecDepth 100000 in
theorem c_X8_cellsBarred {l : Launch} {D : va_G} {cI cJ cZ cR : ClassId} {q : Nat → Nat} {mi : Nat → Int} {ma : Nat → Nat → Int} (hq : qOk 18 q) {z ln i nn : Int} (hO : MOk mi ma) (hz : 0 ≤ z ∧ z ≤ 3) (hl : -2147483648 ≤ ln ∧ ln < 2147483648) (hi : -2147483648 ≤ i ∧ i < 2147483648) (hnn : -2147483648 ≤ nn ∧ nn < 2147483648) : Cti l D vwCl (tysC cI cJ cZ cR) 18 q yX8_cellsBarred wsX8_cellsBarred ({ frames := 1, cells := 0, slots := 0, locals := 23 } : Room) [.ref (q 0), .int (iI z), .int (iI ln), .int (iI i), .long (lI nn)] (cM cI cJ cZ q mi ma) (fun (r : Int32) (g : Nat → va_E) => ∃ (e : Int) (mi' : Nat → Int), (e = (chkCells (vM mi ma) z.toNat ln i nn).1 ∧ ((chkCells (vM mi ma) z.toNat ln i nn).1 = 0 → mi' = mi) ∧ ((chkCells (vM mi ma) z.toNat ln i nn).1 ≠ 0 → mi' = va_up mi 0 (chkCells (vM mi ma) z.toNat ln i nn).2)) ∧ r = iI e ∧ g = (cM cI cJ cZ q mi' ma)) := by
  refine Cti.of (cc := cX8_cellsBarred) (nL := 6) (own := RX8) (ret := (some .int)) (by decide) rfl rfl hq (Nat.le_of_ble_eq_true rfl) (fun p e s m args below meth c => ?_)
  obtain ⟨hR, hn2, hQ, hSh, hSn, hHd, hRdg, hfa⟩ := id hO
  obtain ⟨hN, hP, hK, hM, hD, hB⟩ := id hR
  have hRM := MRv_M hR
  have hnn : rN (rvM mi ma) = mi 1 := rfl
  have hnA : rN (aR (vM mi ma)) = mi 1 := rfl
  have hsz := hSh z.toNat
  have hcm := chkC_m (mi := mi) (ma := ma) (l := ln) (i := i) (n := nn) (show z.toNat < 4 by omega) hsz.2.1
  refine z_aload_n (j := 0) dX8_cellsBarred_0 rfl rfl ?_
  refine z_getf (i := 0) (ci := 8) (k := 25) (v := .ref (q 14)) dX8_cellsBarred_1 m_X8_cellsBarred_f51 in_X8_cellsBarred_X8 rfl (by decide) rfl (by omega) rfl rfl ?_
  refine z_iload_n (j := 1) dX8_cellsBarred_4 rfl rfl ?_
  refine z_iald (i := 14) (g := ma 14) 0 dX8_cellsBarred_5 (by omega) rfl rfl (by omega) (by omega) (by omega) ?_
  refine z_if_lt (tgt := 25) dX8_cellsBarred_6 (by decide) (by omega) (fun c_6 => ?_) (fun c_6 => ?_)
  · refine z_aload_n (j := 0) dX8_cellsBarred_25 rfl rfl ?_
    refine z_getf (i := 0) (ci := 8) (k := 25) (v := .ref (q 14)) dX8_cellsBarred_26 m_X8_cellsBarred_f51 in_X8_cellsBarred_X8 rfl (by decide) rfl (by omega) rfl rfl ?_
    refine z_iload_n (j := 1) dX8_cellsBarred_29 rfl rfl ?_
    refine z_iald (i := 14) (g := ma 14) 0 dX8_cellsBarred_30 (by omega) rfl rfl (by omega) (by omega) (by omega) ?_
    refine z_if_ge (tgt := 40) dX8_cellsBarred_31 (by decide) (by omega) (fun c_31 => ?_) (fun c_31 => ?_)
    · refine z_lload (j := 4) dX8_cellsBarred_40 rfl ?_
      refine z_lconst (z := 0) dX8_cellsBarred_42 (by decide) ?_
      refine z_lcmp dX8_cellsBarred_43 (by omega) (by decide) (fun r_43 hr_43 => ?_)
      refine z_if_ge (tgt := 53) dX8_cellsBarred_44 (by decide) (by omega) (fun c_44 => ?_) (fun c_44 => ?_)
      · refine z_iload_n (j := 3) dX8_cellsBarred_53 rfl rfl ?_
        refine z_lload (j := 4) dX8_cellsBarred_54 rfl ?_
        refine z_aload_n (j := 0) dX8_cellsBarred_56 rfl rfl ?_
        refine z_getf (i := 0) (ci := 8) (k := 25) (v := .ref (q 14)) dX8_cellsBarred_57 m_X8_cellsBarred_f51 in_X8_cellsBarred_X8 rfl (by decide) rfl (by omega) rfl rfl ?_
        refine z_iload_n (j := 1) dX8_cellsBarred_60 rfl rfl ?_
        refine z_iald (i := 14) (g := ma 14) 0 dX8_cellsBarred_61 (by omega) rfl rfl (by omega) (by omega) (by omega) ?_
        refine z_callSi (As := [.int (iI i), .long (lI nn), .int (iI (ma 14 z.toNat))]) (rest := []) (c_X8_isBeyond  hq (by omega) (by omega) (by omega)) dX8_cellsBarred_62 gX8_cellsBarred_X8_isBeyond rfl cd_X8_isBeyond ⟨Nat.le_of_ble_eq_true rfl, Nat.le_of_ble_eq_true rfl⟩ rfl rfl rfl (Nat.le_of_ble_eq_true rfl) ⟨Nat.zero_le _, Nat.zero_le _⟩ (fun r_62 g_62 hp_62 => ?_)
        obtain ⟨⟨h_62, rfl⟩ | ⟨h_62, rfl⟩, rfl⟩ := hp_62
        · refine z_if_eq (tgt := 76) dX8_cellsBarred_65 (by decide) (by decide) (fun h => absurd h (by decide)) (fun _ => ?_)
          refine z_aload_n (j := 0) dX8_cellsBarred_68 rfl rfl ?_
          refine z_iconst dX8_cellsBarred_69 ?_
          refine z_callVi (i := 0) (ci := 8) (As := [.int (iI 3)]) (rest := []) (c_X8_failed  hq ) dX8_cellsBarred_70 gX8_cellsBarred_X8_failed rfl cd_X8_failed ⟨Nat.le_of_ble_eq_true rfl, Nat.le_of_ble_eq_true rfl⟩ rfl rfl (by omega) rfl rfl rfl (Nat.le_of_ble_eq_true rfl) ⟨Nat.zero_le _, Nat.zero_le _⟩ (fun r_70 g_70 hp_70 => ?_)
          obtain ⟨e_70, mi_70, he_70, rfl, rfl⟩ := hp_70
          refine z_goto (tgt := 77) dX8_cellsBarred_73 (by decide) ?_
          exact z_iret dX8_cellsBarred_77 ⟨_, _, (by
      rw [hcm, if_neg (by omega), if_neg (by omega), if_neg (by omega)]
      first
        | (rw [if_pos (by omega)]; exact ⟨he_70.1, fun q => absurd q (by decide), fun _ => he_70.2⟩)
        | (rw [if_neg (by omega)]; exact ⟨rfl, fun _ => rfl, fun q => absurd rfl q⟩)), rfl, rfl⟩
        · refine z_if_eq (tgt := 76) dX8_cellsBarred_65 (by decide) (by decide) (fun _ => ?_) (fun h => absurd h (by decide))
          refine z_iconst dX8_cellsBarred_76 ?_
          exact z_iret dX8_cellsBarred_77 ⟨_, _, (by
      rw [hcm, if_neg (by omega), if_neg (by omega), if_neg (by omega)]
      first
        | (rw [if_pos (by omega)]; exact ⟨he_70.1, fun q => absurd q (by decide), fun _ => he_70.2⟩)
        | (rw [if_neg (by omega)]; exact ⟨rfl, fun _ => rfl, fun q => absurd rfl q⟩)), rfl, rfl⟩
      · refine z_aload_n (j := 0) dX8_cellsBarred_47 rfl rfl ?_
        refine z_iconst dX8_cellsBarred_48 ?_
        refine z_callVi (i := 0) (ci := 8) (As := [.int (iI 4)]) (rest := []) (c_X8_failed  hq ) dX8_cellsBarred_49 gX8_cellsBarred_X8_failed rfl cd_X8_failed ⟨Nat.le_of_ble_eq_true rfl, Nat.le_of_ble_eq_true rfl⟩ rfl rfl (by omega) rfl rfl rfl (Nat.le_of_ble_eq_true rfl) ⟨Nat.zero_le _, Nat.zero_le _⟩ (fun r_49 g_49 hp_49 => ?_)
        obtain ⟨e_49, mi_49, he_49, rfl, rfl⟩ := hp_49
        exact z_iret dX8_cellsBarred_52 ⟨_, _, (by rw [hcm, if_neg (by omega), if_neg (by omega), if_pos (by omega)]; exact ⟨he_49.1, fun q => absurd q (by decide), fun _ => he_49.2⟩), rfl, rfl⟩
    · refine z_aload_n (j := 0) dX8_cellsBarred_34 rfl rfl ?_
      refine z_iconst dX8_cellsBarred_35 ?_
      refine z_callVi (i := 0) (ci := 8) (As := [.int (iI 1)]) (rest := []) (c_X8_failed  hq ) dX8_cellsBarred_36 gX8_cellsBarred_X8_failed rfl cd_X8_failed ⟨Nat.le_of_ble_eq_true rfl, Nat.le_of_ble_eq_true rfl⟩ rfl rfl (by omega) rfl rfl rfl (Nat.le_of_ble_eq_true rfl) ⟨Nat.zero_le _, Nat.zero_le _⟩ (fun r_36 g_36 hp_36 => ?_)
      obtain ⟨e_36, mi_36, he_36, rfl, rfl⟩ := hp_36
      exact z_iret dX8_cellsBarred_39 ⟨_, _, (by rw [hcm, if_pos (by omega)]; exact ⟨he_36.1, fun q => absurd q (by decide), fun _ => he_36.2⟩), rfl, rfl⟩
  · refine z_aload_n (j := 0) dX8_cellsBarred_9 rfl rfl ?_
    refine z_getf (i := 0) (ci := 8) (k := 26) (v := .ref (q 15)) dX8_cellsBarred_10 m_X8_cellsBarred_f54 in_X8_cellsBarred_X8 rfl (by decide) rfl (by omega) rfl rfl ?_
    refine z_iload_n (j := 1) dX8_cellsBarred_13 rfl rfl ?_
    refine z_iald (i := 15) (g := ma 15) 0 dX8_cellsBarred_14 (by omega) rfl rfl (by omega) (by omega) (by omega) ?_
    refine z_iload_n (j := 2) dX8_cellsBarred_15 rfl rfl ?_
    refine z_icmp_eq (tgt := 25) dX8_cellsBarred_16 (by decide) (by omega) (by omega) (fun c_16 => ?_) (fun c_16 => ?_)
    · refine z_aload_n (j := 0) dX8_cellsBarred_25 rfl rfl ?_
      refine z_getf (i := 0) (ci := 8) (k := 25) (v := .ref (q 14)) dX8_cellsBarred_26 m_X8_cellsBarred_f51 in_X8_cellsBarred_X8 rfl (by decide) rfl (by omega) rfl rfl ?_
      refine z_iload_n (j := 1) dX8_cellsBarred_29 rfl rfl ?_
      refine z_iald (i := 14) (g := ma 14) 0 dX8_cellsBarred_30 (by omega) rfl rfl (by omega) (by omega) (by omega) ?_
      refine z_if_ge (tgt := 40) dX8_cellsBarred_31 (by decide) (by omega) (fun c_31 => ?_) (fun c_31 => ?_)
      · refine z_lload (j := 4) dX8_cellsBarred_40 rfl ?_
        refine z_lconst (z := 0) dX8_cellsBarred_42 (by decide) ?_
        refine z_lcmp dX8_cellsBarred_43 (by omega) (by decide) (fun r_43 hr_43 => ?_)
        refine z_if_ge (tgt := 53) dX8_cellsBarred_44 (by decide) (by omega) (fun c_44 => ?_) (fun c_44 => ?_)
        · refine z_iload_n (j := 3) dX8_cellsBarred_53 rfl rfl ?_
          refine z_lload (j := 4) dX8_cellsBarred_54 rfl ?_
          refine z_aload_n (j := 0) dX8_cellsBarred_56 rfl rfl ?_
          refine z_getf (i := 0) (ci := 8) (k := 25) (v := .ref (q 14)) dX8_cellsBarred_57 m_X8_cellsBarred_f51 in_X8_cellsBarred_X8 rfl (by decide) rfl (by omega) rfl rfl ?_
          refine z_iload_n (j := 1) dX8_cellsBarred_60 rfl rfl ?_
          refine z_iald (i := 14) (g := ma 14) 0 dX8_cellsBarred_61 (by omega) rfl rfl (by omega) (by omega) (by omega) ?_
          refine z_callSi (As := [.int (iI i), .long (lI nn), .int (iI (ma 14 z.toNat))]) (rest := []) (c_X8_isBeyond  hq (by omega) (by omega) (by omega)) dX8_cellsBarred_62 gX8_cellsBarred_X8_isBeyond rfl cd_X8_isBeyond ⟨Nat.le_of_ble_eq_true rfl, Nat.le_of_ble_eq_true rfl⟩ rfl rfl rfl (Nat.le_of_ble_eq_true rfl) ⟨Nat.zero_le _, Nat.zero_le _⟩ (fun r_62 g_62 hp_62 => ?_)
          obtain ⟨⟨h_62, rfl⟩ | ⟨h_62, rfl⟩, rfl⟩ := hp_62
          · refine z_if_eq (tgt := 76) dX8_cellsBarred_65 (by decide) (by decide) (fun h => absurd h (by decide)) (fun _ => ?_)
            refine z_aload_n (j := 0) dX8_cellsBarred_68 rfl rfl ?_
            refine z_iconst dX8_cellsBarred_69 ?_
            refine z_callVi (i := 0) (ci := 8) (As := [.int (iI 3)]) (rest := []) (c_X8_failed  hq ) dX8_cellsBarred_70 gX8_cellsBarred_X8_failed rfl cd_X8_failed ⟨Nat.le_of_ble_eq_true rfl, Nat.le_of_ble_eq_true rfl⟩ rfl rfl (by omega) rfl rfl rfl (Nat.le_of_ble_eq_true rfl) ⟨Nat.zero_le _, Nat.zero_le _⟩ (fun r_70 g_70 hp_70 => ?_)
            obtain ⟨e_70, mi_70, he_70, rfl, rfl⟩ := hp_70
            refine z_goto (tgt := 77) dX8_cellsBarred_73 (by decide) ?_
            exact z_iret dX8_cellsBarred_77 ⟨_, _, (by
      rw [hcm, if_neg (by omega), if_neg (by omega), if_neg (by omega)]
      first
        | (rw [if_pos (by omega)]; exact ⟨he_70.1, fun q => absurd q (by decide), fun _ => he_70.2⟩)
        | (rw [if_neg (by omega)]; exact ⟨rfl, fun _ => rfl, fun q => absurd rfl q⟩)), rfl, rfl⟩
          · refine z_if_eq (tgt := 76) dX8_cellsBarred_65 (by decide) (by decide) (fun _ => ?_) (fun h => absurd h (by decide))
            refine z_iconst dX8_cellsBarred_76 ?_
            exact z_iret dX8_cellsBarred_77 ⟨_, _, (by
      rw [hcm, if_neg (by omega), if_neg (by omega), if_neg (by omega)]
      first
        | (rw [if_pos (by omega)]; exact ⟨he_70.1, fun q => absurd q (by decide), fun _ => he_70.2⟩)
        | (rw [if_neg (by omega)]; exact ⟨rfl, fun _ => rfl, fun q => absurd rfl q⟩)), rfl, rfl⟩
        · refine z_aload_n (j := 0) dX8_cellsBarred_47 rfl rfl ?_
          refine z_iconst dX8_cellsBarred_48 ?_
          refine z_callVi (i := 0) (ci := 8) (As := [.int (iI 4)]) (rest := []) (c_X8_failed  hq ) dX8_cellsBarred_49 gX8_cellsBarred_X8_failed rfl cd_X8_failed ⟨Nat.le_of_ble_eq_true rfl, Nat.le_of_ble_eq_true rfl⟩ rfl rfl (by omega) rfl rfl rfl (Nat.le_of_ble_eq_true rfl) ⟨Nat.zero_le _, Nat.zero_le _⟩ (fun r_49 g_49 hp_49 => ?_)
          obtain ⟨e_49, mi_49, he_49, rfl, rfl⟩ := hp_49
          exact z_iret dX8_cellsBarred_52 ⟨_, _, (by rw [hcm, if_neg (by omega), if_neg (by omega), if_pos (by omega)]; exact ⟨he_49.1, fun q => absurd q (by decide), fun _ => he_49.2⟩), rfl, rfl⟩
      · refine z_aload_n (j := 0) dX8_cellsBarred_34 rfl rfl ?_
        refine z_iconst dX8_cellsBarred_35 ?_
        refine z_callVi (i := 0) (ci := 8) (As := [.int (iI 1)]) (rest := []) (c_X8_failed  hq ) dX8_cellsBarred_36 gX8_cellsBarred_X8_failed rfl cd_X8_failed ⟨Nat.le_of_ble_eq_true rfl, Nat.le_of_ble_eq_true rfl⟩ rfl rfl (by omega) rfl rfl rfl (Nat.le_of_ble_eq_true rfl) ⟨Nat.zero_le _, Nat.zero_le _⟩ (fun r_36 g_36 hp_36 => ?_)
        obtain ⟨e_36, mi_36, he_36, rfl, rfl⟩ := hp_36
        exact z_iret dX8_cellsBarred_39 ⟨_, _, (by rw [hcm, if_pos (by omega)]; exact ⟨he_36.1, fun q => absurd q (by decide), fun _ => he_36.2⟩), rfl, rfl⟩
    · refine z_aload_n (j := 0) dX8_cellsBarred_19 rfl rfl ?_
      refine z_iconst dX8_cellsBarred_20 ?_
      refine z_callVi (i := 0) (ci := 8) (As := [.int (iI 2)]) (rest := []) (c_X8_failed  hq ) dX8_cellsBarred_21 gX8_cellsBarred_X8_failed rfl cd_X8_failed ⟨Nat.le_of_ble_eq_true rfl, Nat.le_of_ble_eq_true rfl⟩ rfl rfl (by omega) rfl rfl rfl (Nat.le_of_ble_eq_true rfl) ⟨Nat.zero_le _, Nat.zero_le _⟩ (fun r_21 g_21 hp_21 => ?_)
      obtain ⟨e_21, mi_21, he_21, rfl, rfl⟩ := hp_21
      exact z_iret dX8_cellsBarred_24 ⟨_, _, (by rw [hcm, if_neg (by omega), if_pos (by omega)]; exact ⟨he_21.1, fun q => absurd q (by decide), fun _ => he_21.2⟩), rfl, rfl⟩
theorem cd_X8_cellsBarred : yX8_cellsBarred.cls = RX8 ∧ yX8_cellsBarred.cls ≠ "java/lang/invoke/MethodHandle" ∧ yX8_cellsBarred.cls ≠ "java/lang/invoke/VarHandle" ∧ (parseMethodDescriptor yX8_cellsBarred.desc).map (fun d => d.parameters.length) = some 4 := ⟨rfl, by decide +kernel, by decide +kernel, by decide +kernel⟩
theorem m_X8_actsBarred_f57 : Cond.fieldLink RX8 57 "PoleBehindModel" "sheet" "[I" ∈ wsX8_actsBarred := List.mem_of_getElem? (i := 1) rfl
theorem in_X8_actsBarred_X8 : ∀ w ∈ wsX80, w ∈ wsX8_actsBarred := fun _ h => List.mem_cons_of_mem _ (List.mem_append_right _ h)
theorem m_X8_actsBarred_C139 : Cond.constantLong RX8 139 (lI (3)) ∈ wsX8_actsBarred := List.mem_of_getElem? (i := 2) (by decide +kernel)
set_option maxHeartbeats 400000 in
set_option maxRecDepth 100000 in
theorem c_X8_actsBarred {l : Launch} {D : va_G} {cI cJ cZ cR : ClassId} {q : Nat → Nat} {mi : Nat → Int} {ma : Nat → Nat → Int} (hq : qOk 18 q) {z ln i nn : Int} (hO : MOk mi ma) (hz : 0 ≤ z ∧ z ≤ 3) (hl : -2147483648 ≤ ln ∧ ln < 2147483648) (hi : -2147483648 ≤ i ∧ i < 2147483648) (hnn : -2147483648 ≤ nn ∧ nn < 2147483648) : Cti l D vwCl (tysC cI cJ cZ cR) 18 q yX8_actsBarred wsX8_actsBarred ({ frames := 2, cells := 0, slots := 0, locals := 48 } : Room) [.ref (q 0), .int (iI z), .int (iI ln), .int (iI i), .int (iI nn)] (cM cI cJ cZ q mi ma) (fun (r : Int32) (g : Nat → va_E) => ∃ (e : Int) (mi' : Nat → Int), (e = (chkActs (vM mi ma) z.toNat ln i nn).1 ∧ mi' = va_up mi 0 (chkActs (vM mi ma) z.toNat ln i nn).2) ∧ r = iI e ∧ g = (cM cI cJ cZ q mi' ma)) := by
  refine Cti.of (cc := cX8_actsBarred) (nL := 7) (own := RX8) (ret := (some .int)) (by decide) rfl rfl hq (Nat.le_of_ble_eq_true rfl) (fun p e s m args below meth c => ?_)
  obtain ⟨hR, hn2, hQ, hSh, hSn, hHd, hRdg, hfa⟩ := id hO
  obtain ⟨hN, hP, hK, hM, hD, hB⟩ := id hR
  have hRM := MRv_M hR
  have hnn : rN (rvM mi ma) = mi 1 := rfl
  have hnA : rN (aR (vM mi ma)) = mi 1 := rfl
  have hsz := hSh z.toNat
  have hcm := chkC_m (mi := mi) (ma := ma) (l := ln) (i := i) (n := nn) (show z.toNat < 4 by omega) hsz.2.1
  refine z_aload_n (j := 0) dX8_actsBarred_0 rfl rfl ?_
  refine z_iload_n (j := 1) dX8_actsBarred_1 rfl rfl ?_
  refine z_iload_n (j := 2) dX8_actsBarred_2 rfl rfl ?_
  refine z_iload_n (j := 3) dX8_actsBarred_3 rfl rfl ?_
  refine z_iload (j := 4) dX8_actsBarred_4 rfl ?_
  refine z_i2l dX8_actsBarred_6 (by omega) ?_
  refine z_callVi (i := 0) (ci := 8) (As := [.int (iI z), .int (iI ln), .int (iI i), .long (lI nn)]) (rest := []) (c_X8_cellsBarred  hq hO (by omega) (by omega) (by omega) (by omega)) dX8_actsBarred_7 gX8_actsBarred_X8_cellsBarred rfl cd_X8_cellsBarred ⟨Nat.le_of_ble_eq_true rfl, Nat.le_of_ble_eq_true rfl⟩ rfl rfl (by omega) rfl rfl rfl (Nat.le_of_ble_eq_true rfl) ⟨Nat.zero_le _, Nat.zero_le _⟩ (fun r_7 g_7 hp_7 => ?_)
  obtain ⟨e_7, mi_7, he_7, rfl, rfl⟩ := hp_7
  have hcr := chkC_rng (A := vM mi ma) (j := z.toNat) (l := ln) (i := i) (n := nn)
  obtain ⟨g1, g2, g3⟩ := he_7
  refine z_istore [(5, .int (iI e_7)), (0, .ref (q 0)), (1, .int (iI z)), (2, .int (iI ln)), (3, .int (iI i)), (4, .int (iI nn))] dX8_actsBarred_10 (by decide) rfl ?_
  refine z_iload (j := 0) dX8_actsBarred_12 rfl ?_
  refine z_if_ge (tgt := 20) dX8_actsBarred_14 (by decide) (by omega) (fun c_14 => ?_) (fun c_14 => ?_)
  · have hc0 : (chkCells (vM mi ma) z.toNat ln i nn).1 = 0 := by omega
    have hin := chkC_0in hc0
    have hle : aLen (vM mi ma) z.toNat = if ma 14 z.toNat < 0 then 0 else ma 14 z.toNat := lenM_in (by omega)
    have hla : aLan (vM mi ma) z.toNat = if ma 14 z.toNat < 0 then -1 else ma 15 z.toNat := lanM_in (by omega)
    have hnn0 : ¬ ma 14 z.toNat < 0 := fun h => hin.1 (by rw [hla, if_pos h])
    rw [if_neg hnn0] at hle
    have hfit : 0 ≤ i ∧ i + nn ≤ ma 14 z.toNat := ⟨hin.2.2.2.1, by rw [← hle]; exact hin.2.2.2.2⟩
    refine z_mem (show cM cI cJ cZ q mi_7 ma = cM cI cJ cZ q mi ma by rw [g2 hc0]) ?_
    refine z_iconst dX8_actsBarred_20 ?_
    refine z_istore [(6, .int (iI 0)), (5, .int (iI e_7)), (0, .ref (q 0)), (1, .int (iI z)), (2, .int (iI ln)), (3, .int (iI i)), (4, .int (iI nn))] dX8_actsBarred_21 (by decide) rfl ?_
    have hl_23 : ∀ (N_23 : Nat) (u : Int), (100 - u).toNat < N_23 → (0 ≤ u ∧ u ≤ nn) → (∀ k : Nat, (k : Int) < u → 0 ≤ ma 16 (60 * z.toNat + (i.toNat + k)) ∧ ma 16 (60 * z.toNat + (i.toNat + k)) ≤ 3) → ZMi l D vwCl (tysC cI cJ cZ cR) 18 q ({ frames := 2, cells := 0, slots := 0, locals := 48 } : Room) cX8_actsBarred 7 RX8 wsX8_actsBarred (some .int) (fun (r : Int32) (g : Nat → va_E) => ∃ (e : Int) (mi' : Nat → Int), (e = (chkActs (vM mi ma) z.toNat ln i nn).1 ∧ mi' = va_up mi 0 (chkActs (vM mi ma) z.toNat ln i nn).2) ∧ r = iI e ∧ g = (cM cI cJ cZ q mi' ma)) p e s m args below meth c (cM cI cJ cZ q mi ma) 23 [(6, .int (iI u)), (5, .int (iI e_7)), (0, .ref (q 0)), (1, .int (iI z)), (2, .int (iI ln)), (3, .int (iI i)), (4, .int (iI nn))] [] := by
      intro N_23
      induction N_23 with
      | zero => intro u hm; exact absurd hm (Nat.not_lt_zero _)
      | succ N_23 ih_23 =>
        intro u hm_23 hu hv
        have hsu := hSn (60 * z + i + u).toNat
        have hix : (60 * z + i + u).toNat = 60 * z.toNat + (i.toNat + u.toNat) := by omega
        refine z_iload (j := 0) dX8_actsBarred_23 rfl ?_
        refine z_iload (j := 6) dX8_actsBarred_25 rfl ?_
        refine z_icmp_ge (tgt := 68) dX8_actsBarred_27 (by decide) (by omega) (by omega) (fun c_27 => ?_) (fun c_27 => ?_)
        · refine z_aload_n (j := 2) dX8_actsBarred_68 rfl rfl ?_
          refine z_iconst dX8_actsBarred_69 ?_
          refine z_callVi (i := 0) (ci := 8) (As := [.int (iI 0)]) (rest := []) (c_X8_refused  hq ) dX8_actsBarred_70 gX8_actsBarred_X8_refused rfl cd_X8_refused ⟨Nat.le_of_ble_eq_true rfl, Nat.le_of_ble_eq_true rfl⟩ rfl rfl (by omega) rfl rfl rfl (Nat.le_of_ble_eq_true rfl) ⟨Nat.zero_le _, Nat.zero_le _⟩ (fun r_70 g_70 hp_70 => ?_)
          obtain ⟨e_70, mi_70, he_70, rfl, rfl⟩ := hp_70
          exact z_iret dX8_actsBarred_73 ⟨_, _, (by rw [chkA_ok hc0 (fun k hk => by rw [actG_m (n := nn) (by omega) hfit hk]; exact hv k (by omega))]; exact he_70), rfl, rfl⟩
        · refine z_aload_n (j := 2) dX8_actsBarred_30 rfl rfl ?_
          refine z_getf (i := 0) (ci := 8) (k := 27) (v := .ref (q 16)) dX8_actsBarred_31 m_X8_actsBarred_f57 in_X8_actsBarred_X8 rfl (by decide) rfl (by omega) rfl rfl ?_
          refine z_bipush dX8_actsBarred_34 (by decide) ?_
          refine z_iload_n (j := 3) dX8_actsBarred_36 rfl rfl ?_
          refine z_imul dX8_actsBarred_37 ?_
          refine z_iload_n (j := 5) dX8_actsBarred_38 rfl rfl ?_
          refine z_iadd dX8_actsBarred_39 ?_
          refine z_iload (j := 0) dX8_actsBarred_40 rfl ?_
          refine z_iadd dX8_actsBarred_42 ?_
          refine z_iald (i := 16) (g := ma 16) 0 dX8_actsBarred_43 (by omega) rfl rfl (by omega) (by omega) (by omega) ?_
          refine z_i2l dX8_actsBarred_44 (by omega) ?_
          refine z_lconst (z := 0) dX8_actsBarred_45 (by decide) ?_
          refine z_ldc2 dX8_actsBarred_46 m_X8_actsBarred_C139 ?_
          refine z_callSi (As := [.long (lI (ma 16 (((60 * z) + i) + u).toNat)), .long (lI 0), .long (lI 3)]) (rest := []) (c_X8_in  hq (by omega) (by omega) (by omega)) dX8_actsBarred_49 gX8_actsBarred_X8_in rfl cd_X8_in ⟨Nat.le_of_ble_eq_true rfl, Nat.le_of_ble_eq_true rfl⟩ rfl rfl rfl (Nat.le_of_ble_eq_true rfl) ⟨Nat.zero_le _, Nat.zero_le _⟩ (fun r_49 g_49 hp_49 => ?_)
          obtain ⟨⟨h_49, rfl⟩ | ⟨h_49, rfl⟩, rfl⟩ := hp_49
          · refine z_if_ne (tgt := 62) dX8_actsBarred_52 (by decide) (by decide) (fun _ => ?_) (fun h => absurd h (by decide))
            refine z_iinc (j := 0) [(6, .int (iI (u + 1))), (5, .int (iI e_7)), (0, .ref (q 0)), (1, .int (iI z)), (2, .int (iI ln)), (3, .int (iI i)), (4, .int (iI nn))] dX8_actsBarred_62 rfl (by decide) rfl ?_
            refine z_goto (tgt := 23) dX8_actsBarred_65 (by decide) ?_
            exact z_sub [(6, .int (iI (u + 1))), (5, .int (iI e_7)), (0, .ref (q 0)), (1, .int (iI z)), (2, .int (iI ln)), (3, .int (iI i)), (4, .int (iI nn))] [0, 1, 2, 3, 4, 5, 6] rfl (ih_23 (u + 1) (by omega) (by omega) (fun k hk => by
            by_cases hq : (k : Int) = u
            · rw [show k = u.toNat by omega, ← hix]; omega
            · exact hv k (by omega)))
          · refine z_if_ne (tgt := 62) dX8_actsBarred_52 (by decide) (by decide) (fun h => absurd h (by decide)) (fun _ => ?_)
            refine z_aload_n (j := 2) dX8_actsBarred_55 rfl rfl ?_
            refine z_bipush dX8_actsBarred_56 (by decide) ?_
            refine z_callVi (i := 0) (ci := 8) (As := [.int (iI (-2))]) (rest := []) (c_X8_refused  hq ) dX8_actsBarred_58 gX8_actsBarred_X8_refused rfl cd_X8_refused ⟨Nat.le_of_ble_eq_true rfl, Nat.le_of_ble_eq_true rfl⟩ rfl rfl (by omega) rfl rfl rfl (Nat.le_of_ble_eq_true rfl) ⟨Nat.zero_le _, Nat.zero_le _⟩ (fun r_58 g_58 hp_58 => ?_)
            obtain ⟨e_58, mi_58, he_58, rfl, rfl⟩ := hp_58
            exact z_iret dX8_actsBarred_61 ⟨_, _, (by rw [chkA_bad hc0 ⟨u.toNat, by omega, by rw [actG_m (n := nn) (by omega) hfit (by omega), ← hix]; omega⟩]; exact he_58), rfl, rfl⟩
    exact z_sub [(6, .int (iI 0)), (5, .int (iI e_7)), (0, .ref (q 0)), (1, .int (iI z)), (2, .int (iI ln)), (3, .int (iI i)), (4, .int (iI nn))] [0, 1, 2, 3, 4, 5, 6] rfl (hl_23 _ 0 (Nat.lt_succ_self _) (by omega) (fun k hk => absurd hk (by omega)))
  · refine z_iload (j := 0) dX8_actsBarred_17 rfl ?_
    exact z_iret dX8_actsBarred_19 ⟨_, _, (by rw [chkA_cells (by omega)]; exact ⟨g1, g3 (by omega)⟩), rfl, rfl⟩
theorem cd_X8_noSheet : yX8_noSheet.cls ≠ "java/lang/invoke/MethodHandle" ∧ yX8_noSheet.cls ≠ "java/lang/invoke/VarHandle" ∧ (parseMethodDescriptor yX8_noSheet.desc).map (fun d => d.parameters.length) = some 1 := ⟨by decide +kernel, by decide +kernel, by decide +kernel⟩
theorem m_X8_planBarred_C118 : Cond.constantLong RX8 118 (lI (2)) ∈ wsX8_planBarred := List.mem_of_getElem? (i := 1) (by decide +kernel)
theorem m_X8_planBarred_C177 : Cond.constantLong RX8 177 (lI (18)) ∈ wsX8_planBarred := List.mem_of_getElem? (i := 2) (by decide +kernel)
theorem m_X8_planBarred_f75 : Cond.fieldLink RX8 75 "PoleBehindModel" "cells" "I" ∈ wsX8_planBarred := List.mem_of_getElem? (i := 3) rfl
theorem in_X8_planBarred_X8 : ∀ w ∈ wsX80, w ∈ wsX8_planBarred := fun _ h => List.mem_cons_of_mem _ (List.mem_append_right _ h)
theorem cd_X8_actsBarred : yX8_actsBarred.cls = RX8 ∧ yX8_actsBarred.cls ≠ "java/lang/invoke/MethodHandle" ∧ yX8_actsBarred.cls ≠ "java/lang/invoke/VarHandle" ∧ (parseMethodDescriptor yX8_actsBarred.desc).map (fun d => d.parameters.length) = some 4 := ⟨rfl, by decide +kernel, by decide +kernel, by decide +kernel⟩
set_option maxHeartbeats 400000 in
set_option maxRecDepth 100000 in
theorem c_X8_planBarred {l : Launch} {D : va_G} {cI cJ cZ cR : ClassId} {q : Nat → Nat} {mi : Nat → Int} {ma : Nat → Nat → Int} (hq : qOk 18 q) {z ln i nn okb : Int} (hO : MOk mi ma) (hz : -2147483648 ≤ z ∧ z < 2147483648) (hl : -2147483648 ≤ ln ∧ ln < 2147483648) (hi : -2147483648 ≤ i ∧ i < 2147483648) (hnn : -2147483648 ≤ nn ∧ nn < 2147483648) (hok : okb = 0 ∨ okb = 1) : Cti l D vwCl (tysC cI cJ cZ cR) 18 q yX8_planBarred wsX8_planBarred ({ frames := 3, cells := 0, slots := 0, locals := 74 } : Room) [.ref (q 0), .int (iI z), .int (iI ln), .int (iI i), .int (iI nn), .int (iI okb)] (cM cI cJ cZ q mi ma) (fun (r : Int32) (g : Nat → va_E) => ∃ (e : Int) (mi' : Nat → Int), (e = (chkPlan (vM mi ma) z ln i nn (okb = 1)).1 ∧ mi' = va_up mi 0 (chkPlan (vM mi ma) z ln i nn (okb = 1)).2) ∧ r = iI e ∧ g = (cM cI cJ cZ q mi' ma)) := by
  refine Cti.of (cc := cX8_planBarred) (nL := 6) (own := RX8) (ret := (some .int)) (by decide) rfl rfl hq (Nat.le_of_ble_eq_true rfl) (fun p e s m args below meth c => ?_)
  obtain ⟨hR, hn2, hQ, hSh, hSn, hHd, hRdg, hfa⟩ := id hO
  obtain ⟨hN, hP, hK, hM, hD, hB⟩ := id hR
  have hRM := MRv_M hR
  have hnn : rN (rvM mi ma) = mi 1 := rfl
  have hnA : rN (aR (vM mi ma)) = mi 1 := rfl
  refine z_iload_n (j := 1) dX8_planBarred_0 rfl rfl ?_
  refine z_callSi (As := [.int (iI z)]) (rest := []) (c_X8_noSheet  hq (by omega)) dX8_planBarred_1 gX8_planBarred_X8_noSheet rfl cd_X8_noSheet ⟨Nat.le_of_ble_eq_true rfl, Nat.le_of_ble_eq_true rfl⟩ rfl rfl rfl (Nat.le_of_ble_eq_true rfl) ⟨Nat.zero_le _, Nat.zero_le _⟩ (fun r_1 g_1 hp_1 => ?_)
  obtain ⟨⟨h_1, rfl⟩ | ⟨h_1, rfl⟩, rfl⟩ := hp_1
  · refine z_if_eq (tgt := 13) dX8_planBarred_4 (by decide) (by decide) (fun h => absurd h (by decide)) (fun _ => ?_)
    refine z_aload_n (j := 0) dX8_planBarred_7 rfl rfl ?_
    refine z_iconst dX8_planBarred_8 ?_
    refine z_callVi (i := 0) (ci := 8) (As := [.int (iI (-1))]) (rest := []) (c_X8_refused  hq ) dX8_planBarred_9 gX8_planBarred_X8_refused rfl cd_X8_refused ⟨Nat.le_of_ble_eq_true rfl, Nat.le_of_ble_eq_true rfl⟩ rfl rfl (by omega) rfl rfl rfl (Nat.le_of_ble_eq_true rfl) ⟨Nat.zero_le _, Nat.zero_le _⟩ (fun r_9 g_9 hp_9 => ?_)
    obtain ⟨e_9, mi_9, he_9, rfl, rfl⟩ := hp_9
    exact z_iret dX8_planBarred_12 ⟨_, _, (by unfold chkPlan; rw [if_pos (by omega)]; exact he_9), rfl, rfl⟩
  · refine z_if_eq (tgt := 13) dX8_planBarred_4 (by decide) (by decide) (fun _ => ?_) (fun h => absurd h (by decide))
    refine z_iload_n (j := 2) dX8_planBarred_13 rfl rfl ?_
    refine z_i2l dX8_planBarred_14 (by omega) ?_
    refine z_lconst (z := 0) dX8_planBarred_15 (by decide) ?_
    refine z_ldc2 dX8_planBarred_16 m_X8_planBarred_C118 ?_
    refine z_callSi (As := [.long (lI ln), .long (lI 0), .long (lI 2)]) (rest := []) (c_X8_in  hq (by omega) (by omega) (by omega)) dX8_planBarred_19 gX8_planBarred_X8_in rfl cd_X8_in ⟨Nat.le_of_ble_eq_true rfl, Nat.le_of_ble_eq_true rfl⟩ rfl rfl rfl (Nat.le_of_ble_eq_true rfl) ⟨Nat.zero_le _, Nat.zero_le _⟩ (fun r_19 g_19 hp_19 => ?_)
    obtain ⟨⟨h_19, rfl⟩ | ⟨h_19, rfl⟩, rfl⟩ := hp_19
    · refine z_if_eq (tgt := 43) dX8_planBarred_22 (by decide) (by decide) (fun h => absurd h (by decide)) (fun _ => ?_)
      refine z_iload (j := 4) dX8_planBarred_25 rfl ?_
      refine z_i2l dX8_planBarred_27 (by omega) ?_
      refine z_lconst (z := 0) dX8_planBarred_28 (by decide) ?_
      refine z_ldc2 dX8_planBarred_29 m_X8_planBarred_C177 ?_
      refine z_callSi (As := [.long (lI nn), .long (lI 0), .long (lI 18)]) (rest := []) (c_X8_in  hq (by omega) (by omega) (by omega)) dX8_planBarred_32 gX8_planBarred_X8_in rfl cd_X8_in ⟨Nat.le_of_ble_eq_true rfl, Nat.le_of_ble_eq_true rfl⟩ rfl rfl rfl (Nat.le_of_ble_eq_true rfl) ⟨Nat.zero_le _, Nat.zero_le _⟩ (fun r_32 g_32 hp_32 => ?_)
      obtain ⟨⟨h_32, rfl⟩ | ⟨h_32, rfl⟩, rfl⟩ := hp_32
      · refine z_if_eq (tgt := 43) dX8_planBarred_35 (by decide) (by decide) (fun h => absurd h (by decide)) (fun _ => ?_)
        refine z_iload (j := 5) dX8_planBarred_38 rfl ?_
        refine z_if_ne (tgt := 50) dX8_planBarred_40 (by decide) (by omega) (fun c_40 => ?_) (fun c_40 => ?_)
        · refine z_aload_n (j := 0) dX8_planBarred_50 rfl rfl ?_
          refine z_getf (i := 0) (ci := 8) (k := 1) (v := .int (iI (mi 1))) dX8_planBarred_51 m_X8_planBarred_f75 in_X8_planBarred_X8 rfl (by decide) rfl (by omega) rfl rfl ?_
          refine z_if_ne (tgt := 66) dX8_planBarred_54 (by decide) (by omega) (fun c_54 => ?_) (fun c_54 => ?_)
          · refine z_aload_n (j := 0) dX8_planBarred_66 rfl rfl ?_
            refine z_iload_n (j := 1) dX8_planBarred_67 rfl rfl ?_
            refine z_iload_n (j := 2) dX8_planBarred_68 rfl rfl ?_
            refine z_iload_n (j := 3) dX8_planBarred_69 rfl rfl ?_
            refine z_iload (j := 4) dX8_planBarred_70 rfl ?_
            refine z_callVi (i := 0) (ci := 8) (As := [.int (iI z), .int (iI ln), .int (iI i), .int (iI nn)]) (rest := []) (c_X8_actsBarred  hq hO (by omega) (by omega) (by omega) (by omega)) dX8_planBarred_72 gX8_planBarred_X8_actsBarred rfl cd_X8_actsBarred ⟨Nat.le_of_ble_eq_true rfl, Nat.le_of_ble_eq_true rfl⟩ rfl rfl (by omega) rfl rfl rfl (Nat.le_of_ble_eq_true rfl) ⟨Nat.zero_le _, Nat.zero_le _⟩ (fun r_72 g_72 hp_72 => ?_)
            obtain ⟨e_72, mi_72, he_72, rfl, rfl⟩ := hp_72
            exact z_iret dX8_planBarred_75 ⟨_, _, (by
      unfold chkPlan; rw [if_neg (by omega), if_neg (by omega)]
      first
        | (rw [if_pos (by rw [hnA]; omega)]; exact he_60)
        | (rw [if_neg (by rw [hnA]; omega)]; exact he_72)), rfl, rfl⟩
          · refine z_aload_n (j := 0) dX8_planBarred_57 rfl rfl ?_
            refine z_bipush dX8_planBarred_58 (by decide) ?_
            refine z_callVi (i := 0) (ci := 8) (As := [.int (iI (-3))]) (rest := []) (c_X8_refused  hq ) dX8_planBarred_60 gX8_planBarred_X8_refused rfl cd_X8_refused ⟨Nat.le_of_ble_eq_true rfl, Nat.le_of_ble_eq_true rfl⟩ rfl rfl (by omega) rfl rfl rfl (Nat.le_of_ble_eq_true rfl) ⟨Nat.zero_le _, Nat.zero_le _⟩ (fun r_60 g_60 hp_60 => ?_)
            obtain ⟨e_60, mi_60, he_60, rfl, rfl⟩ := hp_60
            refine z_goto (tgt := 75) dX8_planBarred_63 (by decide) ?_
            exact z_iret dX8_planBarred_75 ⟨_, _, (by
      unfold chkPlan; rw [if_neg (by omega), if_neg (by omega)]
      first
        | (rw [if_pos (by rw [hnA]; omega)]; exact he_60)
        | (rw [if_neg (by rw [hnA]; omega)]; exact he_72)), rfl, rfl⟩
        · refine z_aload_n (j := 0) dX8_planBarred_43 rfl rfl ?_
          refine z_bipush dX8_planBarred_44 (by decide) ?_
          refine z_callVi (i := 0) (ci := 8) (As := [.int (iI (-2))]) (rest := []) (c_X8_refused  hq ) dX8_planBarred_46 gX8_planBarred_X8_refused rfl cd_X8_refused ⟨Nat.le_of_ble_eq_true rfl, Nat.le_of_ble_eq_true rfl⟩ rfl rfl (by omega) rfl rfl rfl (Nat.le_of_ble_eq_true rfl) ⟨Nat.zero_le _, Nat.zero_le _⟩ (fun r_46 g_46 hp_46 => ?_)
          obtain ⟨e_46, mi_46, he_46, rfl, rfl⟩ := hp_46
          exact z_iret dX8_planBarred_49 ⟨_, _, (by unfold chkPlan; rw [if_neg (by omega), if_pos (by omega)]; exact he_46), rfl, rfl⟩
      · refine z_if_eq (tgt := 43) dX8_planBarred_35 (by decide) (by decide) (fun _ => ?_) (fun h => absurd h (by decide))
        refine z_aload_n (j := 0) dX8_planBarred_43 rfl rfl ?_
        refine z_bipush dX8_planBarred_44 (by decide) ?_
        refine z_callVi (i := 0) (ci := 8) (As := [.int (iI (-2))]) (rest := []) (c_X8_refused  hq ) dX8_planBarred_46 gX8_planBarred_X8_refused rfl cd_X8_refused ⟨Nat.le_of_ble_eq_true rfl, Nat.le_of_ble_eq_true rfl⟩ rfl rfl (by omega) rfl rfl rfl (Nat.le_of_ble_eq_true rfl) ⟨Nat.zero_le _, Nat.zero_le _⟩ (fun r_46 g_46 hp_46 => ?_)
        obtain ⟨e_46, mi_46, he_46, rfl, rfl⟩ := hp_46
        exact z_iret dX8_planBarred_49 ⟨_, _, (by unfold chkPlan; rw [if_neg (by omega), if_pos (by omega)]; exact he_46), rfl, rfl⟩
    · refine z_if_eq (tgt := 43) dX8_planBarred_22 (by decide) (by decide) (fun _ => ?_) (fun h => absurd h (by decide))
      refine z_aload_n (j := 0) dX8_planBarred_43 rfl rfl ?_
      refine z_bipush dX8_planBarred_44 (by decide) ?_
      refine z_callVi (i := 0) (ci := 8) (As := [.int (iI (-2))]) (rest := []) (c_X8_refused  hq ) dX8_planBarred_46 gX8_planBarred_X8_refused rfl cd_X8_refused ⟨Nat.le_of_ble_eq_true rfl, Nat.le_of_ble_eq_true rfl⟩ rfl rfl (by omega) rfl rfl rfl (Nat.le_of_ble_eq_true rfl) ⟨Nat.zero_le _, Nat.zero_le _⟩ (fun r_46 g_46 hp_46 => ?_)
      obtain ⟨e_46, mi_46, he_46, rfl, rfl⟩ := hp_46
      exact z_iret dX8_planBarred_49 ⟨_, _, (by unfold chkPlan; rw [if_neg (by omega), if_pos (by omega)]; exact he_46), rfl, rfl⟩
