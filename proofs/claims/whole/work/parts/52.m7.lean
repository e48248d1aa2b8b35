theorem m_X8_noCell_f51 : Cond.fieldLink RX8 51 "PoleBehindModel" "sheetSize" "[I" ∈ wsX8_noCell := List.mem_of_getElem? (i := 1) rfl
theorem in_X8_noCell_X8 : ∀ w ∈ wsX80, w ∈ wsX8_noCell := fun _ h => List.mem_cons_of_mem _ (List.mem_append_right _ h)
set_option maxHeartbeats 400000 in
set_option maxRecDepth 100000 in
theorem c_X8_noCell {l : Launch} {D : va_G} {cI cJ cZ cR : ClassId} {q : Nat → Nat} {mi : Nat → Int} {ma : Nat → Nat → Int} (hq : qOk 18 q) {z ii : Int} (hO : MOk mi ma) (hz : 0 ≤ z ∧ z ≤ 3) (hi : -2147483648 ≤ ii ∧ ii < 2147483648) : Cti l D vwCl (tysC cI cJ cZ cR) 18 q yX8_noCell wsX8_noCell ({ frames := 1, cells := 0, slots := 0, locals := 25 } : Room) [.ref (q 0), .int (iI z), .int (iI ii)] (cM cI cJ cZ q mi ma) (fun (r : Int32) (g : Nat → va_E) => (∃ e : Int, (e = if ma 14 z.toNat < 0 then 1 else if 0 ≤ ii ∧ ii < ma 14 z.toNat then 0 else 3) ∧ r = iI e) ∧ g = (cM cI cJ cZ q mi ma)) := by
  refine Cti.of (cc := cX8_noCell) (nL := 3) (own := RX8) (ret := (some .int)) (by decide) rfl rfl hq (Nat.le_of_ble_eq_true rfl) (fun p e s m args below meth c => ?_)
  obtain ⟨hR, hn2, hQ, hSh, hSn, hHd, hRdg, hfa⟩ := id hO
  obtain ⟨hN, hP, hK, hM, hD, hB⟩ := id hR
  have hRM := MRv_M hR
  have hnn : rN (rvM mi ma) = mi 1 := rfl
  have hnA : rN (aR (vM mi ma)) = mi 1 := rfl
  have hsz := hSh z.toNat
  refine z_aload_n (j := 0) dX8_noCell_0 rfl rfl ?_
  refine z_getf (i := 0) (ci := 8) (k := 25) (v := .ref (q 14)) dX8_noCell_1 m_X8_noCell_f51 in_X8_noCell_X8 rfl (by decide) rfl (by omega) rfl rfl ?_
  refine z_iload_n (j := 1) dX8_noCell_4 rfl rfl ?_
  refine z_iald (i := 14) (g := ma 14) 0 dX8_noCell_5 (by omega) rfl rfl (by omega) (by omega) (by omega) ?_
  refine z_if_ge (tgt := 13) dX8_noCell_6 (by decide) (by omega) (fun c_6 => ?_) (fun c_6 => ?_)
  · refine z_iload_n (j := 2) dX8_noCell_13 rfl rfl ?_
    refine z_i2l dX8_noCell_14 (by omega) ?_
    refine z_lconst (z := 0) dX8_noCell_15 (by decide) ?_
    refine z_aload_n (j := 0) dX8_noCell_16 rfl rfl ?_
    refine z_getf (i := 0) (ci := 8) (k := 25) (v := .ref (q 14)) dX8_noCell_17 m_X8_noCell_f51 in_X8_noCell_X8 rfl (by decide) rfl (by omega) rfl rfl ?_
    refine z_iload_n (j := 1) dX8_noCell_20 rfl rfl ?_
    refine z_iald (i := 14) (g := ma 14) 0 dX8_noCell_21 (by omega) rfl rfl (by omega) (by omega) (by omega) ?_
    refine z_i2l dX8_noCell_22 (by omega) ?_
    refine z_lconst (z := 1) dX8_noCell_23 (by decide) ?_
    refine z_lsub dX8_noCell_24 ?_
    refine z_callSi (As := [.long (lI ii), .long (lI 0), .long (lI ((ma 14 z.toNat) - 1))]) (rest := []) (c_X8_in  hq (by omega) (by omega) (by omega)) dX8_noCell_25 gX8_noCell_X8_in rfl cd_X8_in ⟨Nat.le_of_ble_eq_true rfl, Nat.le_of_ble_eq_true rfl⟩ rfl rfl rfl (Nat.le_of_ble_eq_true rfl) ⟨Nat.zero_le _, Nat.zero_le _⟩ (fun r_25 g_25 hp_25 => ?_)
    obtain ⟨⟨h_25, rfl⟩ | ⟨h_25, rfl⟩, rfl⟩ := hp_25
    · refine z_if_eq (tgt := 35) dX8_noCell_28 (by decide) (by decide) (fun h => absurd h (by decide)) (fun _ => ?_)
      refine z_iconst dX8_noCell_31 ?_
      refine z_goto (tgt := 36) dX8_noCell_32 (by decide) ?_
      exact z_iret dX8_noCell_36 ⟨⟨_, (by first | rw [if_pos (by omega)] | rw [if_neg (by omega), if_pos (by omega)] | rw [if_neg (by omega), if_neg (by omega)]), rfl⟩, rfl⟩
    · refine z_if_eq (tgt := 35) dX8_noCell_28 (by decide) (by decide) (fun _ => ?_) (fun h => absurd h (by decide))
      refine z_iconst dX8_noCell_35 ?_
      exact z_iret dX8_noCell_36 ⟨⟨_, (by first | rw [if_pos (by omega)] | rw [if_neg (by omega), if_pos (by omega)] | rw [if_neg (by omega), if_neg (by omega)]), rfl⟩, rfl⟩
  · refine z_iconst dX8_noCell_9 ?_
    refine z_goto (tgt := 36) dX8_noCell_10 (by decide) ?_
    exact z_iret dX8_noCell_36 ⟨⟨_, (by first | rw [if_pos (by omega)] | rw [if_neg (by omega), if_pos (by omega)] | rw [if_neg (by omega), if_neg (by omega)]), rfl⟩, rfl⟩
