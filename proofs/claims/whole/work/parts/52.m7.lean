theorem m_X8_noCell_f51 : Cond.fieldLink RX8 51 "PoleBehindModel" "sheetSize" "[I" ∈ wsX8_noCell := List.mem_of_getElem? (i := 1) rfl
theorem in_X8_noCell_X8 : ∀ w ∈ wsX80, w ∈ wsX8_noCell := fun _ h => List.mem_cons_of_mem _ (List.mem_append_right _ h)
set_option maxHeartbeats 400000 in
set_option maxRecDepth 100000 in
theorem c_X8_noCell {l : Launch} {D : va_G} {cI cJ cZ cR : ClassId} {q : Nat → Nat} {mi : Nat → Int} {ma : Nat → Nat → Int} (hq : qOk 18 q) {z ii : Int} (hO : MOk mi ma) (hz : 0 ≤ z ∧ z ≤ 3) (hi : -2147483648 ≤ ii ∧ ii < 2147483648) : Cti l D vwCl (tysC cI cJ cZ cR) 18 q yX8_noCell wsX8_noCell ({ frames := 1, cells := 0, slots := 0, locals := 25 } : Room) [.ref (q 0), .int (iI z), .int (iI ii)] (cM cI cJ cZ q mi ma) (fun (r : Int32) (g : Nat → va_E) => (∃ e : Int, (e = if ma 14 z.toNat < 0 then 1 else if 0 ≤ ii ∧ ii < ma 14 z.toNat then 0 else 3) ∧ r = iI e) ∧ g = (cM cI cJ cZ q mi ma)) := by
  refine Cti.of (cc := cX8_noCell) (nL := 3) (own := RX8) (ret := (some .int)) (by decide) rfl rfl hq (Nat.le_of_ble_eq_true rfl) (fun p e s m args below meth c => ?_)
  obtain ⟨hR, hn2, hQ, hSh, hSn, hHd, hRdg, hfa⟩ := id hO
  obtain ⟨hN, hP, hK, hM, hD, hB⟩ := id hR
  have hRM := MRv_M hR
  have hnn : rN (rvM mi ma) = mi 1 := rfl
  have hnA : rN (aR (vM mi ma)) = mi 1 := rfl
  have hsz := hSh z.toNat
  refine z_aload_n (j := 0) dX8_noCell_0 rfl rfl ?_
  refine z_getf (i := 0) (ci := 8) (k := 25) (v := .ref (q 14)) dX8_noCell_1 m_X8_noCell_f51 in_X8_noCell_X8 rfl (by decide) rfl (by omega) rfl rfl ?_
  refine z_iload_n (j := 1) dX8_noCell_4 rfl rfl ?_
  refine z_iald (i := 14) (g := ma 14) 0 dX8_noCell_5 (by omega) rfl rfl (by omega) (by omega) (by omega) ?_
  refine z_if_ge (tgt := 13) dX8_noCell_6 (by decide) (by omega) (fun c_6 => ?_) (fun c_6 => ?_)
  · refine z_iload_n (j := 2) dX8_noCell_13 rfl rfl ?_
    refine z_i2l dX8_noCell_14 (by omega) ?_
    refine z_lconst (z := 0) dX8_noCell_15 (by decide) ?_
    refine z_aload_n (j := 0) dX8_noCell_16 rfl rfl ?_
    refine z_getf (i := 0) (ci := 8) (k := 25) (v := .ref (q 14)) dX8_noCell_17 m_X8_noCell_f51 in_X8_noCell_X8 rfl (by decide) rfl (by omega) rfl rfl ?_
    refine z_iload_n (j := 1) dX8_noCell_20 rfl rfl ?_
    refine z_iald (i := 14) (g := ma 14) 0 dX8_noCell_21 (by omega) rfl rfl (by omega) (by omega) (by omega) ?_
    refine z_i2l dX8_noCell_22 (by omega) ?_
    refine z_lconst (z := 1) dX8_noCell_23 (by decide) ?_
    refine z_lsub dX8_noCell_24 ?_
    refine z_callSi (As := [.long (lI ii), .long (lI 0), .long (lI ((ma 14 z.toNat) - 1))]) (rest := []) (c_X8_in  hq (by omega) (by omega) (by omega)) dX8_noCell_25 gX8_noCell_X8_in rfl cd_X8_in ⟨Nat.le_of_ble_eq_true rfl, Nat.le_of_ble_eq_true rfl⟩ rfl rfl rfl (Nat.le_of_ble_eq_true rfl) ⟨Nat.zero_le _, Nat.zero_le _⟩ (fun r_25 g_25 hp_25 => ?_)
    obtain ⟨⟨h_25, rfl⟩ | ⟨h_25, rfl⟩, rfl⟩ := hp_25
    · refine z_if_eq (tgt := 35) dX8_noCell_28 (by decide) (by decide) (fun h => absurd h (by decide)) (fun _ => ?_)
      refine z_iconst dX8_noCell_31 ?_
      refine z_goto (tgt := 36) dX8_noCell_32 (by decide) ?_
      exact z_iret dX8_noCell_36 ⟨⟨_, (by first | rw [if_pos (by omega)] | rw [if_neg (by omega), if_pos (by omega)] | rw [if_neg (by omega), if_neg (by omega)]), rfl⟩, rfl⟩
    · refine z_if_eq (tgt := 35) dX8_noCell_28 (by decide) (by decide) (fun _ => ?_) (fun h => absurd h (by decide))
      refine z_iconst dX8_noCell_35 ?_
      exact z_iret dX8_noCell_36 ⟨⟨_, (by first | rw [if_pos (by omega)] | rw [if_neg (by omega), if_pos (by omega)] | rw [if_neg (by omega), if_neg (by omega)]), rfl⟩, rfl⟩
  · refine z_iconst dX8_noCell_9 ?_
    refine z_goto (tgt := 36) dX8_noCell_10 (by decide) ?_
    exact z_iret dX8_noCell_36 ⟨⟨_, (by first | rw [if_pos (by omega)] | rw [if_neg (by omega), if_pos (by omega)] | rw [if_neg (by omega), if_neg (by omega)]), rfl⟩, rfl⟩
theorem m_X8_cell_f67 : Cond.fieldLink RX8 67 "PoleBehindModel" "fault" "I" ∈ wsX8_cell := List.mem_of_getElem? (i := 1) rfl
theorem in_X8_cell_X8 : ∀ w ∈ wsX80, w ∈ wsX8_cell := fun _ h => List.mem_cons_of_mem _ (List.mem_append_right _ h)
theorem m_X8_cell_C118 : Cond.constantLong RX8 118 (lI (2)) ∈ wsX8_cell := List.mem_of_getElem? (i := 2) (by decide +kernel)
theorem m_X8_cell_f51 : Cond.fieldLink RX8 51 "PoleBehindModel" "sheetSize" "[I" ∈ wsX8_cell := List.mem_of_getElem? (i := 3) rfl
theorem cd_X8_noCell : yX8_noCell.cls = RX8 ∧ yX8_noCell.cls ≠ "java/lang/invoke/MethodHandle" ∧ yX8_noCell.cls ≠ "java/lang/invoke/VarHandle" ∧ (parseMethodDescriptor yX8_noCell.desc).map (fun d => d.parameters.length) = some 2 := ⟨rfl, by decide +kernel, by decide +kernel, by decide +kernel⟩
theorem m_X8_cell_f57 : Cond.fieldLink RX8 57 "PoleBehindModel" "sheet" "[I" ∈ wsX8_cell := List.mem_of_getElem? (i := 5) rfl
theorem cd_X8_failedLong : yX8_failedLong.cls = RX8 ∧ yX8_failedLong.cls ≠ "java/lang/invoke/MethodHandle" ∧ yX8_failedLong.cls ≠ "java/lang/invoke/VarHandle" ∧ (parseMethodDescriptor yX8_failedLong.desc).map (fun d => d.parameters.length) = some 1 := ⟨rfl, by decide +kernel, by decide +kernel, by decide +kernel⟩
theorem m_X8_cell_f54 : Cond.fieldLink RX8 54 "PoleBehindModel" "sheetLane" "[I" ∈ wsX8_cell := List.mem_of_getElem? (i := 4) rfl
set_option maxHeartbeats 400000 in
set_option maxRecDepth 100000 in
theorem c_X8_cell {l : Launch} {D : va_G} {cI cJ cZ cR : ClassId} {q : Nat → Nat} {mi : Nat → Int} {ma : Nat → Nat → Int} (hq : qOk 18 q) {z ii ln : Int} (hO : MOk mi ma) (hz : -2147483648 ≤ z ∧ z < 2147483648) (hi : -2147483648 ≤ ii ∧ ii < 2147483648) (hl : -2147483648 ≤ ln ∧ ln < 2147483648) : Ctl l D vwCl (tysC cI cJ cZ cR) 18 q yX8_cell wsX8_cell ({ frames := 2, cells := 0, slots := 0, locals := 47 } : Room) [.ref (q 0), .int (iI z), .int (iI ii), .int (iI ln)] (cM cI cJ cZ q mi ma) (fun (r : Int64) (g : Nat → va_E) => ∃ (e : Int) (mi' : Nat → Int), (spCell (vM mi ma) z ii ln e (vM mi' ma) ∧ MOk mi' ma) ∧ r = lI e ∧ g = (cM cI cJ cZ q mi' ma)) := by
  refine Ctl.of (cc := cX8_cell) (nL := 4) (own := RX8) (ret := (some .long)) (by decide) rfl rfl hq (Nat.le_of_ble_eq_true rfl) (fun p e s m args below meth c => ?_)
  obtain ⟨hR, hn2, hQ, hSh, hSn, hHd, hRdg, hfa⟩ := id hO
  obtain ⟨hN, hP, hK, hM, hD, hB⟩ := id hR
  have hRM := MRv_M hR
  have hnn : rN (rvM mi ma) = mi 1 := rfl
  have hnA : rN (aR (vM mi ma)) = mi 1 := rfl
  have hsz := hSh z.toNat
  have hO0 := MOk_fa (v := 0) hO (by omega)
  have huu : ∀ v : Int, va_up (va_up mi 0 0) 0 v = va_up mi 0 v := fun v => bx_uu _ _ _ _
  refine z_aload_n (j := 0) dX8_cell_0 rfl rfl ?_
  refine z_iconst dX8_cell_1 ?_
  refine z_putf (i := 0) (ci := 8) (k := 0) (cM cI cJ cZ q (va_up mi 0 0) ma) dX8_cell_2 m_X8_cell_f67 in_X8_cell_X8 rfl (by decide) rfl (by omega) rfl tyX8_ok nmX8 rfl rfl rfl (Nat.le_of_ble_eq_true rfl) lm_0 ?_
  refine z_iload_n (j := 1) dX8_cell_5 rfl rfl ?_
  refine z_callSi (As := [.int (iI z)]) (rest := []) (c_X8_noSheet  hq (by omega)) dX8_cell_6 gX8_cell_X8_noSheet rfl cd_X8_noSheet ⟨Nat.le_of_ble_eq_true rfl, Nat.le_of_ble_eq_true rfl⟩ rfl rfl rfl (Nat.le_of_ble_eq_true rfl) ⟨Nat.zero_le _, Nat.zero_le _⟩ (fun r_6 g_6 hp_6 => ?_)
  obtain ⟨⟨h_6, rfl⟩ | ⟨h_6, rfl⟩, rfl⟩ := hp_6
  · refine z_if_ne (tgt := 24) dX8_cell_9 (by decide) (by decide) (fun _ => ?_) (fun h => absurd h (by decide))
    refine z_callSl (As := []) (rest := []) (c_X8_lost  hq ) dX8_cell_24 gX8_cell_X8_lost rfl cd_X8_lost ⟨Nat.le_of_ble_eq_true rfl, Nat.le_of_ble_eq_true rfl⟩ rfl rfl rfl (Nat.le_of_ble_eq_true rfl) ⟨Nat.zero_le _, Nat.zero_le _⟩ (fun r_24 g_24 hp_24 => ?_)
    obtain ⟨⟨_, rfl, rfl⟩, rfl⟩ := hp_24
    exact z_lret dX8_cell_27 ⟨_, _, (by unfold spCell; rw [if_pos (by omega)]; exact ⟨⟨rfl, vM_fa⟩, hO0⟩), rfl, rfl⟩
  · refine z_if_ne (tgt := 24) dX8_cell_9 (by decide) (by decide) (fun h => absurd h (by decide)) (fun _ => ?_)
    refine z_iload_n (j := 3) dX8_cell_12 rfl rfl ?_
    refine z_i2l dX8_cell_13 (by omega) ?_
    refine z_lconst (z := 0) dX8_cell_14 (by decide) ?_
    refine z_ldc2 dX8_cell_15 m_X8_cell_C118 ?_
    refine z_callSi (As := [.long (lI ln), .long (lI 0), .long (lI 2)]) (rest := []) (c_X8_in  hq (by omega) (by omega) (by omega)) dX8_cell_18 gX8_cell_X8_in rfl cd_X8_in ⟨Nat.le_of_ble_eq_true rfl, Nat.le_of_ble_eq_true rfl⟩ rfl rfl rfl (Nat.le_of_ble_eq_true rfl) ⟨Nat.zero_le _, Nat.zero_le _⟩ (fun r_18 g_18 hp_18 => ?_)
    obtain ⟨⟨h_18, rfl⟩ | ⟨h_18, rfl⟩, rfl⟩ := hp_18
    · refine z_if_ne (tgt := 28) dX8_cell_21 (by decide) (by decide) (fun _ => ?_) (fun h => absurd h (by decide))
      refine z_aload_n (j := 0) dX8_cell_28 rfl rfl ?_
      refine z_getf (i := 0) (ci := 8) (k := 25) (v := .ref (q 14)) dX8_cell_29 m_X8_cell_f51 in_X8_cell_X8 rfl (by decide) rfl (by omega) rfl rfl ?_
      refine z_iload_n (j := 1) dX8_cell_32 rfl rfl ?_
      refine z_iald (i := 14) (g := ma 14) 0 dX8_cell_33 (by omega) rfl rfl (by omega) (by omega) (by omega) ?_
      refine z_if_lt (tgt := 53) dX8_cell_34 (by decide) (by omega) (fun c_34 => ?_) (fun c_34 => ?_)
      · refine z_aload_n (j := 0) dX8_cell_53 rfl rfl ?_
        refine z_iload_n (j := 1) dX8_cell_54 rfl rfl ?_
        refine z_iload_n (j := 2) dX8_cell_55 rfl rfl ?_
        refine z_callVi (i := 0) (ci := 8) (As := [.int (iI z), .int (iI ii)]) (rest := []) (c_X8_noCell  hq hO0 (by omega) (by omega)) dX8_cell_56 gX8_cell_X8_noCell rfl cd_X8_noCell ⟨Nat.le_of_ble_eq_true rfl, Nat.le_of_ble_eq_true rfl⟩ rfl rfl (by omega) rfl rfl rfl (Nat.le_of_ble_eq_true rfl) ⟨Nat.zero_le _, Nat.zero_le _⟩ (fun r_56 g_56 hp_56 => ?_)
        obtain ⟨⟨e_56, he_56, rfl⟩, rfl⟩ := hp_56
        have hnr : 0 ≤ e_56 ∧ e_56 ≤ 3 := by
          rw [he_56]
          split <;> (try split) <;> omega
        refine z_if_le (tgt := 75) dX8_cell_59 (by decide) (by omega) (fun c_59 => ?_) (fun c_59 => ?_)
        · have hsv := hSn (60 * z + ii).toNat
          have h0 : ¬ ma 14 z.toNat < 0 ∧ 0 ≤ ii ∧ ii < ma 14 z.toNat := by
            by_cases q1 : ma 14 z.toNat < 0
            · rw [if_pos q1] at he_56; omega
            · rw [if_neg q1] at he_56
              by_cases q2 : 0 ≤ ii ∧ ii < ma 14 z.toNat
              · exact ⟨q1, q2⟩
              · rw [if_neg q2] at he_56; omega
          refine z_aload_n (j := 0) dX8_cell_75 rfl rfl ?_
          refine z_getf (i := 0) (ci := 8) (k := 27) (v := .ref (q 16)) dX8_cell_76 m_X8_cell_f57 in_X8_cell_X8 rfl (by decide) rfl (by omega) rfl rfl ?_
          refine z_bipush dX8_cell_79 (by decide) ?_
          refine z_iload_n (j := 1) dX8_cell_81 rfl rfl ?_
          refine z_imul dX8_cell_82 ?_
          refine z_iload_n (j := 2) dX8_cell_83 rfl rfl ?_
          refine z_iadd dX8_cell_84 ?_
          refine z_iald (i := 16) (g := ma 16) 0 dX8_cell_85 (by omega) rfl rfl (by omega) (by omega) (by omega) ?_
          refine z_i2l dX8_cell_86 (by omega) ?_
          exact z_lret dX8_cell_87 ⟨_, _, (by
      have hla : aLan (vM mi ma) z.toNat = if ma 14 z.toNat < 0 then -1 else ma 15 z.toNat := lanM_in (by omega)
      have hle : aLen (vM mi ma) z.toNat = if ma 14 z.toNat < 0 then 0 else ma 14 z.toNat := lenM_in (by omega)
      unfold spCell; rw [if_neg (by omega), hla, hle]
      by_cases q1 : ma 14 z.toNat < 0
      · first
          | exact absurd q1 h0.1
          | (rw [if_pos q1] at he_56
             rw [if_pos q1, if_pos rfl, he_69.2, huu, he66, he_56]; exact ⟨⟨he_69.1, vM_fa⟩, MOk_fa hO (by omega)⟩)
      · rw [if_neg q1, if_neg q1, if_neg (by omega), if_neg (by omega)]
        first
          | (have h1 := h0.2
             rw [if_neg (not_not_intro h1)]
             refine ⟨⟨?_, vM_fa⟩, hO0⟩
             show _ = numM ma z.toNat ii.toNat
             rw [numM_in (by omega), lenM_in (by omega), if_neg q1, nrm_in (by omega), show (60 * z + ii).toNat = 60 * z.toNat + ii.toNat by omega])
          | (rw [if_neg q1] at he_56
             by_cases q2 : 0 ≤ ii ∧ ii < ma 14 z.toNat
             · rw [if_pos q2] at he_56; omega
             · rw [if_neg q2] at he_56
               rw [if_pos q2, he_69.2, huu, he66, he_56]; exact ⟨⟨he_69.1, vM_fa⟩, MOk_fa hO (by omega)⟩)), rfl, rfl⟩
        · refine z_aload_n (j := 0) dX8_cell_62 rfl rfl ?_
          refine z_aload_n (j := 0) dX8_cell_63 rfl rfl ?_
          refine z_iload_n (j := 1) dX8_cell_64 rfl rfl ?_
          refine z_iload_n (j := 2) dX8_cell_65 rfl rfl ?_
          refine z_callVi (i := 0) (ci := 8) (As := [.int (iI z), .int (iI ii)]) (rest := [.ref (q 0)]) (c_X8_noCell  hq hO0 (by omega) (by omega)) dX8_cell_66 gX8_cell_X8_noCell rfl cd_X8_noCell ⟨Nat.le_of_ble_eq_true rfl, Nat.le_of_ble_eq_true rfl⟩ rfl rfl (by omega) rfl rfl rfl (Nat.le_of_ble_eq_true rfl) ⟨Nat.zero_le _, Nat.zero_le _⟩ (fun r_66 g_66 hp_66 => ?_)
          obtain ⟨⟨e_66, he_66, rfl⟩, rfl⟩ := hp_66
          have he66 : e_66 = e_56 := by rw [he_66, he_56]
          refine z_callVl (i := 0) (ci := 8) (As := [.int (iI e_66)]) (rest := []) (c_X8_failedLong  hq ) dX8_cell_69 gX8_cell_X8_failedLong rfl cd_X8_failedLong ⟨Nat.le_of_ble_eq_true rfl, Nat.le_of_ble_eq_true rfl⟩ rfl rfl (by omega) rfl rfl rfl (Nat.le_of_ble_eq_true rfl) ⟨Nat.zero_le _, Nat.zero_le _⟩ (fun r_69 g_69 hp_69 => ?_)
          obtain ⟨e_69, mi_69, he_69, rfl, rfl⟩ := hp_69
          refine z_goto (tgt := 87) dX8_cell_72 (by decide) ?_
          exact z_lret dX8_cell_87 ⟨_, _, (by
      have hla : aLan (vM mi ma) z.toNat = if ma 14 z.toNat < 0 then -1 else ma 15 z.toNat := lanM_in (by omega)
      have hle : aLen (vM mi ma) z.toNat = if ma 14 z.toNat < 0 then 0 else ma 14 z.toNat := lenM_in (by omega)
      unfold spCell; rw [if_neg (by omega), hla, hle]
      by_cases q1 : ma 14 z.toNat < 0
      · first
          | exact absurd q1 h0.1
          | (rw [if_pos q1] at he_56
             rw [if_pos q1, if_pos rfl, he_69.2, huu, he66, he_56]; exact ⟨⟨he_69.1, vM_fa⟩, MOk_fa hO (by omega)⟩)
      · rw [if_neg q1, if_neg q1, if_neg (by omega), if_neg (by omega)]
        first
          | (have h1 := h0.2
             rw [if_neg (not_not_intro h1)]
             refine ⟨⟨?_, vM_fa⟩, hO0⟩
             show _ = numM ma z.toNat ii.toNat
             rw [numM_in (by omega), lenM_in (by omega), if_neg q1, nrm_in (by omega), show (60 * z + ii).toNat = 60 * z.toNat + ii.toNat by omega])
          | (rw [if_neg q1] at he_56
             by_cases q2 : 0 ≤ ii ∧ ii < ma 14 z.toNat
             · rw [if_pos q2] at he_56; omega
             · rw [if_neg q2] at he_56
               rw [if_pos q2, he_69.2, huu, he66, he_56]; exact ⟨⟨he_69.1, vM_fa⟩, MOk_fa hO (by omega)⟩)), rfl, rfl⟩
      · refine z_aload_n (j := 0) dX8_cell_37 rfl rfl ?_
        refine z_getf (i := 0) (ci := 8) (k := 26) (v := .ref (q 15)) dX8_cell_38 m_X8_cell_f54 in_X8_cell_X8 rfl (by decide) rfl (by omega) rfl rfl ?_
        refine z_iload_n (j := 1) dX8_cell_41 rfl rfl ?_
        refine z_iald (i := 15) (g := ma 15) 0 dX8_cell_42 (by omega) rfl rfl (by omega) (by omega) (by omega) ?_
        refine z_iload_n (j := 3) dX8_cell_43 rfl rfl ?_
        refine z_icmp_eq (tgt := 53) dX8_cell_44 (by decide) (by omega) (by omega) (fun c_44 => ?_) (fun c_44 => ?_)
        · refine z_aload_n (j := 0) dX8_cell_53 rfl rfl ?_
          refine z_iload_n (j := 1) dX8_cell_54 rfl rfl ?_
          refine z_iload_n (j := 2) dX8_cell_55 rfl rfl ?_
          refine z_callVi (i := 0) (ci := 8) (As := [.int (iI z), .int (iI ii)]) (rest := []) (c_X8_noCell  hq hO0 (by omega) (by omega)) dX8_cell_56 gX8_cell_X8_noCell rfl cd_X8_noCell ⟨Nat.le_of_ble_eq_true rfl, Nat.le_of_ble_eq_true rfl⟩ rfl rfl (by omega) rfl rfl rfl (Nat.le_of_ble_eq_true rfl) ⟨Nat.zero_le _, Nat.zero_le _⟩ (fun r_56 g_56 hp_56 => ?_)
          obtain ⟨⟨e_56, he_56, rfl⟩, rfl⟩ := hp_56
          have hnr : 0 ≤ e_56 ∧ e_56 ≤ 3 := by
            rw [he_56]
            split <;> (try split) <;> omega
          refine z_if_le (tgt := 75) dX8_cell_59 (by decide) (by omega) (fun c_59 => ?_) (fun c_59 => ?_)
          · have hsv := hSn (60 * z + ii).toNat
            have h0 : ¬ ma 14 z.toNat < 0 ∧ 0 ≤ ii ∧ ii < ma 14 z.toNat := by
              by_cases q1 : ma 14 z.toNat < 0
              · rw [if_pos q1] at he_56; omega
              · rw [if_neg q1] at he_56
                by_cases q2 : 0 ≤ ii ∧ ii < ma 14 z.toNat
                · exact ⟨q1, q2⟩
                · rw [if_neg q2] at he_56; omega
            refine z_aload_n (j := 0) dX8_cell_75 rfl rfl ?_
            refine z_getf (i := 0) (ci := 8) (k := 27) (v := .ref (q 16)) dX8_cell_76 m_X8_cell_f57 in_X8_cell_X8 rfl (by decide) rfl (by omega) rfl rfl ?_
            refine z_bipush dX8_cell_79 (by decide) ?_
            refine z_iload_n (j := 1) dX8_cell_81 rfl rfl ?_
            refine z_imul dX8_cell_82 ?_
            refine z_iload_n (j := 2) dX8_cell_83 rfl rfl ?_
            refine z_iadd dX8_cell_84 ?_
            refine z_iald (i := 16) (g := ma 16) 0 dX8_cell_85 (by omega) rfl rfl (by omega) (by omega) (by omega) ?_
            refine z_i2l dX8_cell_86 (by omega) ?_
            exact z_lret dX8_cell_87 ⟨_, _, (by
      have hla : aLan (vM mi ma) z.toNat = if ma 14 z.toNat < 0 then -1 else ma 15 z.toNat := lanM_in (by omega)
      have hle : aLen (vM mi ma) z.toNat = if ma 14 z.toNat < 0 then 0 else ma 14 z.toNat := lenM_in (by omega)
      unfold spCell; rw [if_neg (by omega), hla, hle]
      by_cases q1 : ma 14 z.toNat < 0
      · first
          | exact absurd q1 h0.1
          | (rw [if_pos q1] at he_56
             rw [if_pos q1, if_pos rfl, he_69.2, huu, he66, he_56]; exact ⟨⟨he_69.1, vM_fa⟩, MOk_fa hO (by omega)⟩)
      · rw [if_neg q1, if_neg q1, if_neg (by omega), if_neg (by omega)]
        first
          | (have h1 := h0.2
             rw [if_neg (not_not_intro h1)]
             refine ⟨⟨?_, vM_fa⟩, hO0⟩
             show _ = numM ma z.toNat ii.toNat
             rw [numM_in (by omega), lenM_in (by omega), if_neg q1, nrm_in (by omega), show (60 * z + ii).toNat = 60 * z.toNat + ii.toNat by omega])
          | (rw [if_neg q1] at he_56
             by_cases q2 : 0 ≤ ii ∧ ii < ma 14 z.toNat
             · rw [if_pos q2] at he_56; omega
             · rw [if_neg q2] at he_56
               rw [if_pos q2, he_69.2, huu, he66, he_56]; exact ⟨⟨he_69.1, vM_fa⟩, MOk_fa hO (by omega)⟩)), rfl, rfl⟩
          · refine z_aload_n (j := 0) dX8_cell_62 rfl rfl ?_
            refine z_aload_n (j := 0) dX8_cell_63 rfl rfl ?_
            refine z_iload_n (j := 1) dX8_cell_64 rfl rfl ?_
            refine z_iload_n (j := 2) dX8_cell_65 rfl rfl ?_
            refine z_callVi (i := 0) (ci := 8) (As := [.int (iI z), .int (iI ii)]) (rest := [.ref (q 0)]) (c_X8_noCell  hq hO0 (by omega) (by omega)) dX8_cell_66 gX8_cell_X8_noCell rfl cd_X8_noCell ⟨Nat.le_of_ble_eq_true rfl, Nat.le_of_ble_eq_true rfl⟩ rfl rfl (by omega) rfl rfl rfl (Nat.le_of_ble_eq_true rfl) ⟨Nat.zero_le _, Nat.zero_le _⟩ (fun r_66 g_66 hp_66 => ?_)
            obtain ⟨⟨e_66, he_66, rfl⟩, rfl⟩ := hp_66
            have he66 : e_66 = e_56 := by rw [he_66, he_56]
            refine z_callVl (i := 0) (ci := 8) (As := [.int (iI e_66)]) (rest := []) (c_X8_failedLong  hq ) dX8_cell_69 gX8_cell_X8_failedLong rfl cd_X8_failedLong ⟨Nat.le_of_ble_eq_true rfl, Nat.le_of_ble_eq_true rfl⟩ rfl rfl (by omega) rfl rfl rfl (Nat.le_of_ble_eq_true rfl) ⟨Nat.zero_le _, Nat.zero_le _⟩ (fun r_69 g_69 hp_69 => ?_)
            obtain ⟨e_69, mi_69, he_69, rfl, rfl⟩ := hp_69
            refine z_goto (tgt := 87) dX8_cell_72 (by decide) ?_
            exact z_lret dX8_cell_87 ⟨_, _, (by
      have hla : aLan (vM mi ma) z.toNat = if ma 14 z.toNat < 0 then -1 else ma 15 z.toNat := lanM_in (by omega)
      have hle : aLen (vM mi ma) z.toNat = if ma 14 z.toNat < 0 then 0 else ma 14 z.toNat := lenM_in (by omega)
      unfold spCell; rw [if_neg (by omega), hla, hle]
      by_cases q1 : ma 14 z.toNat < 0
      · first
          | exact absurd q1 h0.1
          | (rw [if_pos q1] at he_56
             rw [if_pos q1, if_pos rfl, he_69.2, huu, he66, he_56]; exact ⟨⟨he_69.1, vM_fa⟩, MOk_fa hO (by omega)⟩)
      · rw [if_neg q1, if_neg q1, if_neg (by omega), if_neg (by omega)]
        first
          | (have h1 := h0.2
             rw [if_neg (not_not_intro h1)]
             refine ⟨⟨?_, vM_fa⟩, hO0⟩
             show _ = numM ma z.toNat ii.toNat
             rw [numM_in (by omega), lenM_in (by omega), if_neg q1, nrm_in (by omega), show (60 * z + ii).toNat = 60 * z.toNat + ii.toNat by omega])
          | (rw [if_neg q1] at he_56
             by_cases q2 : 0 ≤ ii ∧ ii < ma 14 z.toNat
             · rw [if_pos q2] at he_56; omega
             · rw [if_neg q2] at he_56
               rw [if_pos q2, he_69.2, huu, he66, he_56]; exact ⟨⟨he_69.1, vM_fa⟩, MOk_fa hO (by omega)⟩)), rfl, rfl⟩
        · refine z_aload_n (j := 0) dX8_cell_47 rfl rfl ?_
          refine z_iconst dX8_cell_48 ?_
          refine z_callVl (i := 0) (ci := 8) (As := [.int (iI 2)]) (rest := []) (c_X8_failedLong  hq ) dX8_cell_49 gX8_cell_X8_failedLong rfl cd_X8_failedLong ⟨Nat.le_of_ble_eq_true rfl, Nat.le_of_ble_eq_true rfl⟩ rfl rfl (by omega) rfl rfl rfl (Nat.le_of_ble_eq_true rfl) ⟨Nat.zero_le _, Nat.zero_le _⟩ (fun r_49 g_49 hp_49 => ?_)
          obtain ⟨e_49, mi_49, he_49, rfl, rfl⟩ := hp_49
          exact z_lret dX8_cell_52 ⟨_, _, (by
      have hla : aLan (vM mi ma) z.toNat = if ma 14 z.toNat < 0 then -1 else ma 15 z.toNat := lanM_in (by omega)
      unfold spCell; rw [if_neg (by omega), hla, if_neg (show ¬ ma 14 z.toNat < 0 by omega), if_neg (by omega), if_pos (by omega), he_49.2, huu]; exact ⟨⟨he_49.1, vM_fa⟩, MOk_fa hO (by omega)⟩), rfl, rfl⟩
    · refine z_if_ne (tgt := 28) dX8_cell_21 (by decide) (by decide) (fun h => absurd h (by decide)) (fun _ => ?_)
      refine z_callSl (As := []) (rest := []) (c_X8_lost  hq ) dX8_cell_24 gX8_cell_X8_lost rfl cd_X8_lost ⟨Nat.le_of_ble_eq_true rfl, Nat.le_of_ble_eq_true rfl⟩ rfl rfl rfl (Nat.le_of_ble_eq_true rfl) ⟨Nat.zero_le _, Nat.zero_le _⟩ (fun r_24 g_24 hp_24 => ?_)
      obtain ⟨⟨_, rfl, rfl⟩, rfl⟩ := hp_24
      exact z_lret dX8_cell_27 ⟨_, _, (by unfold spCell; rw [if_pos (by omega)]; exact ⟨⟨rfl, vM_fa⟩, hO0⟩), rfl, rfl⟩
theorem m_X8_lose_f51 : Cond.fieldLink RX8 51 "PoleBehindModel" "sheetSize" "[I" ∈ wsX8_lose := List.mem_of_getElem? (i := 1) rfl
theorem in_X8_lose_X8 : ∀ w ∈ wsX80, w ∈ wsX8_lose := fun _ h => List.mem_cons_of_mem _ (List.mem_append_right _ h)
set_option maxHeartbeats 400000 in
set_option maxRecDepth 100000 in
theorem c_X8_lose {l : Launch} {D : va_G} {cI cJ cZ cR : ClassId} {q : Nat → Nat} {mi : Nat → Int} {ma : Nat → Nat → Int} (hq : qOk 18 q) {z : Int} (hO : MOk mi ma) (hz : -2147483648 ≤ z ∧ z < 2147483648) : Cti l D vwCl (tysC cI cJ cZ cR) 18 q yX8_lose wsX8_lose ({ frames := 2, cells := 0, slots := 0, locals := 45 } : Room) [.ref (q 0), .int (iI z)] (cM cI cJ cZ q mi ma) (fun (r : Int32) (g : Nat → va_E) => ∃ (e : Int) (ma' : Nat → Nat → Int), (spLose (vM mi ma) z e (vM mi ma') ∧ MOk mi ma') ∧ r = iI e ∧ g = (cM cI cJ cZ q mi ma')) := by
  refine Cti.of (cc := cX8_lose) (nL := 3) (own := RX8) (ret := (some .int)) (by decide) rfl rfl hq (Nat.le_of_ble_eq_true rfl) (fun p e s m args below meth c => ?_)
  obtain ⟨hR, hn2, hQ, hSh, hSn, hHd, hRdg, hfa⟩ := id hO
  obtain ⟨hN, hP, hK, hM, hD, hB⟩ := id hR
  have hRM := MRv_M hR
  have hnn : rN (rvM mi ma) = mi 1 := rfl
  have hnA : rN (aR (vM mi ma)) = mi 1 := rfl
  have hsz := hSh z.toNat
  refine z_iload_n (j := 1) dX8_lose_0 rfl rfl ?_
  refine z_callSi (As := [.int (iI z)]) (rest := []) (c_X8_noSheet  hq (by omega)) dX8_lose_1 gX8_lose_X8_noSheet rfl cd_X8_noSheet ⟨Nat.le_of_ble_eq_true rfl, Nat.le_of_ble_eq_true rfl⟩ rfl rfl rfl (Nat.le_of_ble_eq_true rfl) ⟨Nat.zero_le _, Nat.zero_le _⟩ (fun r_1 g_1 hp_1 => ?_)
  obtain ⟨⟨h_1, rfl⟩ | ⟨h_1, rfl⟩, rfl⟩ := hp_1
  · refine z_if_eq (tgt := 9) dX8_lose_4 (by decide) (by decide) (fun h => absurd h (by decide)) (fun _ => ?_)
    refine z_iconst dX8_lose_7 ?_
    exact z_iret dX8_lose_8 ⟨_, _, (by unfold spLose; rw [if_pos (by omega)]; exact ⟨⟨rfl, rfl⟩, hO⟩), rfl, rfl⟩
  · refine z_if_eq (tgt := 9) dX8_lose_4 (by decide) (by decide) (fun _ => ?_) (fun h => absurd h (by decide))
    refine z_aload_n (j := 0) dX8_lose_9 rfl rfl ?_
    refine z_getf (i := 0) (ci := 8) (k := 25) (v := .ref (q 14)) dX8_lose_10 m_X8_lose_f51 in_X8_lose_X8 rfl (by decide) rfl (by omega) rfl rfl ?_
    refine z_iload_n (j := 1) dX8_lose_13 rfl rfl ?_
    refine z_iald (i := 14) (g := ma 14) 0 dX8_lose_14 (by omega) rfl rfl (by omega) (by omega) (by omega) ?_
    refine z_if_ge (tgt := 22) dX8_lose_15 (by decide) (by omega) (fun c_15 => ?_) (fun c_15 => ?_)
    · refine z_iconst dX8_lose_22 ?_
      refine z_istore_n [(2, .int (iI 1)), (0, .ref (q 0)), (1, .int (iI z))] dX8_lose_23 rfl (by decide) rfl ?_
      refine z_aload_n (j := 1) dX8_lose_24 rfl rfl ?_
      refine z_getf (i := 0) (ci := 8) (k := 25) (v := .ref (q 14)) dX8_lose_25 m_X8_lose_f51 in_X8_lose_X8 rfl (by decide) rfl (by omega) rfl rfl ?_
      refine z_iload_n (j := 2) dX8_lose_28 rfl rfl ?_
      refine z_iconst dX8_lose_29 ?_
      refine z_iast (i := 14) (g := ma 14) 0 (cM cI cJ cZ q mi (va_up ma 14 (va_up (ma 14) z.toNat (-1)))) dX8_lose_30 (by omega) rfl rfl (by omega) (by omega) (by omega) la_14 ?_
      refine z_iload_n (j := 0) dX8_lose_31 rfl rfl ?_
      exact z_iret dX8_lose_32 ⟨_, _, (by
      have hla : aLan (vM mi ma) z.toNat = if ma 14 z.toNat < 0 then -1 else ma 15 z.toNat := lanM_in (by omega)
      have hj : z.toNat < 4 := by omega
      have e14 : va_up ma 14 (va_up (ma 14) z.toNat (-1)) 14 = va_up (ma 14) z.toNat (-1) := up_s
      unfold spLose; rw [if_neg (by omega), hla]
      refine ⟨⟨?_, ?_⟩, MOk_sh hO (fun _ _ => rfl) (fun k h1 h2 h3 h4 => up_n h1) (fun i => ?_) (by rw [up_n (by decide)]; exact hSn) (by rw [up_n (by decide)]; exact hHd) hfa⟩
      · first
          | rw [if_pos (show ma 14 z.toNat < 0 by omega), if_pos rfl]
          | rw [if_neg (show ¬ ma 14 z.toNat < 0 by omega), if_neg (by omega)]
      · exact vM_sh (mi := mi) (ma := ma) hj (fun _ _ => rfl) (fun k h1 h2 h3 h4 => up_n h1) (fun i hi => by rw [e14, up_n hi]) (fun i hi => by rw [up_n (by decide)]) (fun i => (hSh i).1.2) (fun i hi k hk => by rw [up_n (by decide)]) (by rw [lanM_in hj, e14, up_s, if_pos (by decide)]) (by rw [lenM_in hj, e14, up_s, if_pos (by decide)]) (by rw [numM_in hj, lenM_in hj, e14, up_s, if_pos (by decide)]; exact nrm_zero)
      · rw [e14, up_n (show (15 : Nat) ≠ 14 by decide)]
        refine ⟨?_, (hSh i).2⟩
        by_cases hi : i = z.toNat
        · rw [hi, up_s]; omega
        · rw [up_n hi]; exact (hSh i).1), rfl, rfl⟩
    · refine z_iconst dX8_lose_18 ?_
      refine z_goto (tgt := 23) dX8_lose_19 (by decide) ?_
      refine z_istore_n [(2, .int (iI 0)), (0, .ref (q 0)), (1, .int (iI z))] dX8_lose_23 rfl (by decide) rfl ?_
      refine z_aload_n (j := 1) dX8_lose_24 rfl rfl ?_
      refine z_getf (i := 0) (ci := 8) (k := 25) (v := .ref (q 14)) dX8_lose_25 m_X8_lose_f51 in_X8_lose_X8 rfl (by decide) rfl (by omega) rfl rfl ?_
      refine z_iload_n (j := 2) dX8_lose_28 rfl rfl ?_
      refine z_iconst dX8_lose_29 ?_
      refine z_iast (i := 14) (g := ma 14) 0 (cM cI cJ cZ q mi (va_up ma 14 (va_up (ma 14) z.toNat (-1)))) dX8_lose_30 (by omega) rfl rfl (by omega) (by omega) (by omega) la_14 ?_
      refine z_iload_n (j := 0) dX8_lose_31 rfl rfl ?_
      exact z_iret dX8_lose_32 ⟨_, _, (by
      have hla : aLan (vM mi ma) z.toNat = if ma 14 z.toNat < 0 then -1 else ma 15 z.toNat := lanM_in (by omega)
      have hj : z.toNat < 4 := by omega
      have e14 : va_up ma 14 (va_up (ma 14) z.toNat (-1)) 14 = va_up (ma 14) z.toNat (-1) := up_s
      unfold spLose; rw [if_neg (by omega), hla]
      refine ⟨⟨?_, ?_⟩, MOk_sh hO (fun _ _ => rfl) (fun k h1 h2 h3 h4 => up_n h1) (fun i => ?_) (by rw [up_n (by decide)]; exact hSn) (by rw [up_n (by decide)]; exact hHd) hfa⟩
      · first
          | rw [if_pos (show ma 14 z.toNat < 0 by omega), if_pos rfl]
          | rw [if_neg (show ¬ ma 14 z.toNat < 0 by omega), if_neg (by omega)]
      · exact vM_sh (mi := mi) (ma := ma) hj (fun _ _ => rfl) (fun k h1 h2 h3 h4 => up_n h1) (fun i hi => by rw [e14, up_n hi]) (fun i hi => by rw [up_n (by decide)]) (fun i => (hSh i).1.2) (fun i hi k hk => by rw [up_n (by decide)]) (by rw [lanM_in hj, e14, up_s, if_pos (by decide)]) (by rw [lenM_in hj, e14, up_s, if_pos (by decide)]) (by rw [numM_in hj, lenM_in hj, e14, up_s, if_pos (by decide)]; exact nrm_zero)
      · rw [e14, up_n (show (15 : Nat) ≠ 14 by decide)]
        refine ⟨?_, (hSh i).2⟩
        by_cases hi : i = z.toNat
        · rw [hi, up_s]; omega
        · rw [up_n hi]; exact (hSh i).1), rfl, rfl⟩
