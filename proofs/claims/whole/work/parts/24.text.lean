theorem nwf_X5_30 : Cond.fieldLinkNest RX5 30 "PoleBehind$River" "count" "I" "PoleBehind" ∈ NWl := List.mem_of_getElem? (i := 1) rfl
theorem in_X5_goesOnByCell_X2 : ∀ w ∈ wsX20, w ∈ wsX5_goesOnByCell := fun _ h => List.mem_cons_of_mem _ (List.mem_append_left _ (List.mem_append_right _ h))
theorem cd_X2_add : yX2_add.cls = RX2 ∧ yX2_add.cls ≠ "java/lang/invoke/MethodHandle" ∧ yX2_add.cls ≠ "java/lang/invoke/VarHandle" ∧ (parseMethodDescriptor yX2_add.desc).map (fun d => d.parameters.length) = some 2 := ⟨rfl, by decide +kernel, by decide +kernel, by decide +kernel⟩
theorem m_X5_goesOnByCell_f16 : Cond.fieldLink RX5 16 "PoleBehind$TextReader" "stage" "I" ∈ wsX5_goesOnByCell := List.mem_of_getElem? (i := 1) rfl
theorem in_X5_goesOnByCell_X5 : ∀ w ∈ wsX50, w ∈ wsX5_goesOnByCell := fun _ h => List.mem_cons_of_mem _ (List.mem_append_right _ h)
set_option maxHeartbeats 4000000 in
set_option maxRecDepth 100000 in
theorem c_X5_goesOnByCell {l : Launch} {D : va_G} {cI cJ cZ cR : ClassId} {q : Nat → Nat} {w d : Nat} {xi : Nat → Int} {xa : Nat → Nat → Int} (hq : qOk 31 q) {b : Nat} {kind deep : Int} (hb : b < 2) (hR : RdOk xi xa b) (hk : 0 ≤ kind ∧ kind ≤ 2) (hd : deep = 0 ∨ deep = 1) : Cti l D vwCl (tysC cI cJ cZ cR) 31 q yX5_goesOnByCell wsX5_goesOnByCell ({ frames := 1, cells := 0, slots := 0, locals := 22 } : Room) [.ref (q 20), .int (iI kind), .int (iI deep), .ref (q (10 + b))] (cX cI cJ cZ cR q w d xi xa) (fun (r : Int32) (g : Nat → va_E) => ∃ (xi' : Nat → Int) (xa' : Nat → Nat → Int), (((mcell kind deep (mvX xi xa b) = some (mvX xi' xa' b) ∧ Fr xi xa xi' xa' b ∧ RdOk xi' xa' b) ∧ r = iI 1) ∨ ((mcell kind deep (mvX xi xa b) = none ∧ Fr xi xa xi' xa' b ∧ RdOk xi' xa' b) ∧ r = iI 0)) ∧ g = (cX cI cJ cZ cR q w d xi' xa')) := by
  refine Cti.of (cc := cX5_goesOnByCell) (nL := 4) (own := RX5) (ret := (some .boolean)) (by decide) rfl rfl hq (Nat.le_of_ble_eq_true rfl) (fun p e s m args below meth c => ?_)
  obtain ⟨⟨hN, hP, hK, hM, hD, hB⟩, hS, hC⟩ := id hR
  have hO := RdOk_iff.mp hR
  refine z_aload_n (j := 3) dX5_goesOnByCell_0 rfl rfl ?_
  refine z_getfN (i := 10 + b) (ci := 2) (k := 4) (v := .int (iI (xi (10 + b)))) dX5_goesOnByCell_1 nwf_X5_30 in_X5_goesOnByCell_X2 rfl (by decide) rfl (by omega) (cX_rv hb) rfl ?_
  refine z_bipush dX5_goesOnByCell_4 (by decide) ?_
  refine z_icmp_lt (tgt := 11) dX5_goesOnByCell_6 (by decide) (by omega) (by decide) (fun c_6 => ?_) (fun c_6 => ?_)
  · refine z_aload_n (j := 3) dX5_goesOnByCell_11 rfl rfl ?_
    refine z_iload_n (j := 1) dX5_goesOnByCell_12 rfl rfl ?_
    refine z_iload_n (j := 2) dX5_goesOnByCell_13 rfl rfl ?_
    refine z_callVv (i := 10 + b) (ci := 2) (As := [.int (iI kind), .int (iI deep)]) (rest := []) (c_X2_add  hq hb hR.1 (by omega) (by omega) (by omega)) dX5_goesOnByCell_14 gX5_goesOnByCell_X2_add rfl cd_X2_add ⟨Nat.le_of_ble_eq_true rfl, Nat.le_of_ble_eq_true rfl⟩ rfl rfl (by omega) (cX_rv hb) rfl rfl (Nat.le_of_ble_eq_true rfl) ⟨Nat.zero_le _, Nat.zero_le _⟩ (fun g_14 hp_14 => ?_)
    obtain ⟨xi_14, xa_14, he_14, rfl⟩ := hp_14
    refine z_aload_n (j := 0) dX5_goesOnByCell_17 rfl rfl ?_
    refine z_iload_n (j := 2) dX5_goesOnByCell_18 rfl rfl ?_
    refine z_if_eq (tgt := 26) dX5_goesOnByCell_19 (by decide) (by omega) (fun c_19 => ?_) (fun c_19 => ?_)
    · refine z_iconst dX5_goesOnByCell_26 ?_
      refine z_putf (i := 20) (ci := 5) (k := 0) (cX cI cJ cZ cR q w d (va_up xi_14 14 3) xa_14) dX5_goesOnByCell_27 m_X5_goesOnByCell_f16 in_X5_goesOnByCell_X5 rfl (by decide) rfl (by omega) rfl tyX5_ok nmX5 rfl rfl rfl (Nat.le_of_ble_eq_true rfl) lx_stage ?_
      refine z_iconst dX5_goesOnByCell_30 ?_
      exact z_zret dX5_goesOnByCell_31 (Or.inr rfl) ⟨_, _, Or.inl ⟨(by
      obtain ⟨e1, e2⟩ := he_14
      have hs : mcell kind deep (mvX xi xa b) = some (mvX (va_up xi_14 14 3) xa_14 b) := by
        rw [e1, e2, mv_cell hb]
        show (if xi (10 + b) < 16 then some (if deep = 0 then 3 else 4, _) else none) = _
        rw [if_pos (by omega)]
        first | rw [if_pos (by omega)] | rw [if_neg (by omega)]
      refine ⟨hs, ?_, RdOk_iff.mpr (mcell_ok hk hd hO hs)⟩
      rw [e1, e2]
      exact ⟨fun k h1 h2 h3 => by rw [up_n h1, up_n h2], fun k h1 h2 h3 h4 => by rw [up_n h4, up_n h3, up_n h2, up_n h1]⟩), rfl⟩, rfl⟩
    · refine z_iconst dX5_goesOnByCell_22 ?_
      refine z_goto (tgt := 27) dX5_goesOnByCell_23 (by decide) ?_
      refine z_putf (i := 20) (ci := 5) (k := 0) (cX cI cJ cZ cR q w d (va_up xi_14 14 4) xa_14) dX5_goesOnByCell_27 m_X5_goesOnByCell_f16 in_X5_goesOnByCell_X5 rfl (by decide) rfl (by omega) rfl tyX5_ok nmX5 rfl rfl rfl (Nat.le_of_ble_eq_true rfl) lx_stage ?_
      refine z_iconst dX5_goesOnByCell_30 ?_
      exact z_zret dX5_goesOnByCell_31 (Or.inr rfl) ⟨_, _, Or.inl ⟨(by
      obtain ⟨e1, e2⟩ := he_14
      have hs : mcell kind deep (mvX xi xa b) = some (mvX (va_up xi_14 14 4) xa_14 b) := by
        rw [e1, e2, mv_cell hb]
        show (if xi (10 + b) < 16 then some (if deep = 0 then 3 else 4, _) else none) = _
        rw [if_pos (by omega)]
        first | rw [if_pos (by omega)] | rw [if_neg (by omega)]
      refine ⟨hs, ?_, RdOk_iff.mpr (mcell_ok hk hd hO hs)⟩
      rw [e1, e2]
      exact ⟨fun k h1 h2 h3 => by rw [up_n h1, up_n h2], fun k h1 h2 h3 h4 => by rw [up_n h4, up_n h3, up_n h2, up_n h1]⟩), rfl⟩, rfl⟩
  · refine z_iconst dX5_goesOnByCell_9 ?_
    exact z_zret dX5_goesOnByCell_10 (Or.inl rfl) ⟨_, _, Or.inr ⟨(by
      refine ⟨?_, Fr.rf, hR⟩
      show (if xi (10 + b) < 16 then _ else none) = none
      rw [if_neg (by omega)]), rfl⟩, rfl⟩
theorem cd_X5_goesOnByCell : yX5_goesOnByCell.cls = RX5 ∧ yX5_goesOnByCell.cls ≠ "java/lang/invoke/MethodHandle" ∧ yX5_goesOnByCell.cls ≠ "java/lang/invoke/VarHandle" ∧ (parseMethodDescriptor yX5_goesOnByCell.desc).map (fun d => d.parameters.length) = some 3 := ⟨rfl, by decide +kernel, by decide +kernel, by decide +kernel⟩
set_option maxHeartbeats 4000000 in
set_option maxRecDepth 100000 in
theorem c_X5_goesOnByLetter {l : Launch} {D : va_G} {cI cJ cZ cR : ClassId} {q : Nat → Nat} {w d : Nat} {xi : Nat → Int} {xa : Nat → Nat → Int} (hq : qOk 31 q) {b : Nat} {code : Int} (hb : b < 2) (hR : RdOk xi xa b) (hc : -2147483648 ≤ code ∧ code < 2147483648) : Cti l D vwCl (tysC cI cJ cZ cR) 31 q yX5_goesOnByLetter wsX5_goesOnByLetter ({ frames := 2, cells := 0, slots := 0, locals := 45 } : Room) [.ref (q 20), .int (iI code), .ref (q (10 + b))] (cX cI cJ cZ cR q w d xi xa) (fun (r : Int32) (g : Nat → va_E) => ∃ (xi' : Nat → Int) (xa' : Nat → Nat → Int), (((mletter code (mvX xi xa b) = some (mvX xi' xa' b) ∧ Fr xi xa xi' xa' b ∧ RdOk xi' xa' b) ∧ r = iI 1) ∨ ((mletter code (mvX xi xa b) = none ∧ Fr xi xa xi' xa' b ∧ RdOk xi' xa' b) ∧ r = iI 0)) ∧ g = (cX cI cJ cZ cR q w d xi' xa')) := by
  refine Cti.of (cc := cX5_goesOnByLetter) (nL := 3) (own := RX5) (ret := (some .boolean)) (by decide) rfl rfl hq (Nat.le_of_ble_eq_true rfl) (fun p e s m args below meth c => ?_)
  obtain ⟨⟨hN, hP, hK, hM, hD, hB⟩, hS, hC⟩ := id hR
  have hO := RdOk_iff.mp hR
  refine z_iload_n (j := 1) dX5_goesOnByLetter_0 rfl rfl ?_
  by_cases k_1_0 : code = 99
  · refine z_lsw (off := 59) (tgt := 60) dX5_goesOnByLetter_1 (by omega) (by decide) (by rw [k_1_0]; decide) (by decide) ?_
    refine z_aload_n (j := 0) dX5_goesOnByLetter_60 rfl rfl ?_
    refine z_iconst dX5_goesOnByLetter_61 ?_
    refine z_iconst dX5_goesOnByLetter_62 ?_
    refine z_aload_n (j := 2) dX5_goesOnByLetter_63 rfl rfl ?_
    refine z_callVi (i := 20) (ci := 5) (As := [.int (iI 2), .int (iI 0), .ref (q (10 + b))]) (rest := []) (c_X5_goesOnByCell  hq hb hR (by omega) (by omega)) dX5_goesOnByLetter_64 gX5_goesOnByLetter_X5_goesOnByCell rfl cd_X5_goesOnByCell ⟨Nat.le_of_ble_eq_true rfl, Nat.le_of_ble_eq_true rfl⟩ rfl rfl (by omega) rfl rfl rfl (Nat.le_of_ble_eq_true rfl) ⟨Nat.zero_le _, Nat.zero_le _⟩ (fun r_64 g_64 hp_64 => ?_)
    obtain ⟨xi_64, xa_64, ⟨h_64, rfl⟩ | ⟨h_64, rfl⟩, rfl⟩ := hp_64
    · exact z_zret dX5_goesOnByLetter_67 (Or.inr rfl) ⟨_, _, Or.inl ⟨(by
      unfold mletter
      first | (rw [if_pos k_1_0]; exact h_64) | (rw [if_neg k_1_0, if_pos k_1_1]; exact h_64) | (rw [if_neg k_1_0, if_neg k_1_1, if_pos k_1_2]; exact h_64) | (rw [if_neg k_1_0, if_neg k_1_1, if_neg k_1_2, if_pos k_1_3]; exact h_64)), rfl⟩, rfl⟩
    · exact z_zret dX5_goesOnByLetter_67 (Or.inl rfl) ⟨_, _, Or.inr ⟨(by
      unfold mletter
      first | (rw [if_pos k_1_0]; exact h_64) | (rw [if_neg k_1_0, if_pos k_1_1]; exact h_64) | (rw [if_neg k_1_0, if_neg k_1_1, if_pos k_1_2]; exact h_64) | (rw [if_neg k_1_0, if_neg k_1_1, if_neg k_1_2, if_pos k_1_3]; exact h_64)), rfl⟩, rfl⟩
  ·
    by_cases k_1_1 : code = 100
    · refine z_lsw (off := 67) (tgt := 68) dX5_goesOnByLetter_1 (by omega) (by decide) (by rw [k_1_1]; decide) (by decide) ?_
      refine z_aload_n (j := 0) dX5_goesOnByLetter_68 rfl rfl ?_
      refine z_iconst dX5_goesOnByLetter_69 ?_
      refine z_iconst dX5_goesOnByLetter_70 ?_
      refine z_aload_n (j := 2) dX5_goesOnByLetter_71 rfl rfl ?_
      refine z_callVi (i := 20) (ci := 5) (As := [.int (iI 0), .int (iI 1), .ref (q (10 + b))]) (rest := []) (c_X5_goesOnByCell  hq hb hR (by omega) (by omega)) dX5_goesOnByLetter_72 gX5_goesOnByLetter_X5_goesOnByCell rfl cd_X5_goesOnByCell ⟨Nat.le_of_ble_eq_true rfl, Nat.le_of_ble_eq_true rfl⟩ rfl rfl (by omega) rfl rfl rfl (Nat.le_of_ble_eq_true rfl) ⟨Nat.zero_le _, Nat.zero_le _⟩ (fun r_72 g_72 hp_72 => ?_)
      obtain ⟨xi_72, xa_72, ⟨h_72, rfl⟩ | ⟨h_72, rfl⟩, rfl⟩ := hp_72
      · exact z_zret dX5_goesOnByLetter_75 (Or.inr rfl) ⟨_, _, Or.inl ⟨(by
      unfold mletter
      first | (rw [if_pos k_1_0]; exact h_72) | (rw [if_neg k_1_0, if_pos k_1_1]; exact h_72) | (rw [if_neg k_1_0, if_neg k_1_1, if_pos k_1_2]; exact h_72) | (rw [if_neg k_1_0, if_neg k_1_1, if_neg k_1_2, if_pos k_1_3]; exact h_72)), rfl⟩, rfl⟩
      · exact z_zret dX5_goesOnByLetter_75 (Or.inl rfl) ⟨_, _, Or.inr ⟨(by
      unfold mletter
      first | (rw [if_pos k_1_0]; exact h_72) | (rw [if_neg k_1_0, if_pos k_1_1]; exact h_72) | (rw [if_neg k_1_0, if_neg k_1_1, if_pos k_1_2]; exact h_72) | (rw [if_neg k_1_0, if_neg k_1_1, if_neg k_1_2, if_pos k_1_3]; exact h_72)), rfl⟩, rfl⟩
    ·
      by_cases k_1_2 : code = 103
      · refine z_lsw (off := 43) (tgt := 44) dX5_goesOnByLetter_1 (by omega) (by decide) (by rw [k_1_2]; decide) (by decide) ?_
        refine z_aload_n (j := 0) dX5_goesOnByLetter_44 rfl rfl ?_
        refine z_iconst dX5_goesOnByLetter_45 ?_
        refine z_iconst dX5_goesOnByLetter_46 ?_
        refine z_aload_n (j := 2) dX5_goesOnByLetter_47 rfl rfl ?_
        refine z_callVi (i := 20) (ci := 5) (As := [.int (iI 0), .int (iI 0), .ref (q (10 + b))]) (rest := []) (c_X5_goesOnByCell  hq hb hR (by omega) (by omega)) dX5_goesOnByLetter_48 gX5_goesOnByLetter_X5_goesOnByCell rfl cd_X5_goesOnByCell ⟨Nat.le_of_ble_eq_true rfl, Nat.le_of_ble_eq_true rfl⟩ rfl rfl (by omega) rfl rfl rfl (Nat.le_of_ble_eq_true rfl) ⟨Nat.zero_le _, Nat.zero_le _⟩ (fun r_48 g_48 hp_48 => ?_)
        obtain ⟨xi_48, xa_48, ⟨h_48, rfl⟩ | ⟨h_48, rfl⟩, rfl⟩ := hp_48
        · exact z_zret dX5_goesOnByLetter_51 (Or.inr rfl) ⟨_, _, Or.inl ⟨(by
      unfold mletter
      first | (rw [if_pos k_1_0]; exact h_48) | (rw [if_neg k_1_0, if_pos k_1_1]; exact h_48) | (rw [if_neg k_1_0, if_neg k_1_1, if_pos k_1_2]; exact h_48) | (rw [if_neg k_1_0, if_neg k_1_1, if_neg k_1_2, if_pos k_1_3]; exact h_48)), rfl⟩, rfl⟩
        · exact z_zret dX5_goesOnByLetter_51 (Or.inl rfl) ⟨_, _, Or.inr ⟨(by
      unfold mletter
      first | (rw [if_pos k_1_0]; exact h_48) | (rw [if_neg k_1_0, if_pos k_1_1]; exact h_48) | (rw [if_neg k_1_0, if_neg k_1_1, if_pos k_1_2]; exact h_48) | (rw [if_neg k_1_0, if_neg k_1_1, if_neg k_1_2, if_pos k_1_3]; exact h_48)), rfl⟩, rfl⟩
      ·
        by_cases k_1_3 : code = 109
        · refine z_lsw (off := 51) (tgt := 52) dX5_goesOnByLetter_1 (by omega) (by decide) (by rw [k_1_3]; decide) (by decide) ?_
          refine z_aload_n (j := 0) dX5_goesOnByLetter_52 rfl rfl ?_
          refine z_iconst dX5_goesOnByLetter_53 ?_
          refine z_iconst dX5_goesOnByLetter_54 ?_
          refine z_aload_n (j := 2) dX5_goesOnByLetter_55 rfl rfl ?_
          refine z_callVi (i := 20) (ci := 5) (As := [.int (iI 1), .int (iI 0), .ref (q (10 + b))]) (rest := []) (c_X5_goesOnByCell  hq hb hR (by omega) (by omega)) dX5_goesOnByLetter_56 gX5_goesOnByLetter_X5_goesOnByCell rfl cd_X5_goesOnByCell ⟨Nat.le_of_ble_eq_true rfl, Nat.le_of_ble_eq_true rfl⟩ rfl rfl (by omega) rfl rfl rfl (Nat.le_of_ble_eq_true rfl) ⟨Nat.zero_le _, Nat.zero_le _⟩ (fun r_56 g_56 hp_56 => ?_)
          obtain ⟨xi_56, xa_56, ⟨h_56, rfl⟩ | ⟨h_56, rfl⟩, rfl⟩ := hp_56
          · exact z_zret dX5_goesOnByLetter_59 (Or.inr rfl) ⟨_, _, Or.inl ⟨(by
      unfold mletter
      first | (rw [if_pos k_1_0]; exact h_56) | (rw [if_neg k_1_0, if_pos k_1_1]; exact h_56) | (rw [if_neg k_1_0, if_neg k_1_1, if_pos k_1_2]; exact h_56) | (rw [if_neg k_1_0, if_neg k_1_1, if_neg k_1_2, if_pos k_1_3]; exact h_56)), rfl⟩, rfl⟩
          · exact z_zret dX5_goesOnByLetter_59 (Or.inl rfl) ⟨_, _, Or.inr ⟨(by
      unfold mletter
      first | (rw [if_pos k_1_0]; exact h_56) | (rw [if_neg k_1_0, if_pos k_1_1]; exact h_56) | (rw [if_neg k_1_0, if_neg k_1_1, if_pos k_1_2]; exact h_56) | (rw [if_neg k_1_0, if_neg k_1_1, if_neg k_1_2, if_pos k_1_3]; exact h_56)), rfl⟩, rfl⟩
        ·
          refine z_lsw (off := 75) (tgt := 76) dX5_goesOnByLetter_1 (by omega) (by decide) (by first | (show Op.lookupswitch.offset [(99, 59), (100, 67), (103, 43), (109, 51)] _ _ = _; rw [Op.lookupswitch.offset_cons, if_neg (fun h => k_1_0 h.symm), Op.lookupswitch.offset_cons, if_neg (fun h => k_1_1 h.symm), Op.lookupswitch.offset_cons, if_neg (fun h => k_1_2 h.symm), Op.lookupswitch.offset_cons, if_neg (fun h => k_1_3 h.symm)]; rfl) | (show Op.lookupswitch.offset [(99, 59), (100, 67), (103, 43), (109, 51)] _ _ = _; rw [Op.lookupswitch.offset_cons, if_neg k_1_0, Op.lookupswitch.offset_cons, if_neg k_1_1, Op.lookupswitch.offset_cons, if_neg k_1_2, Op.lookupswitch.offset_cons, if_neg k_1_3]; rfl)) (by decide) ?_
          refine z_iconst dX5_goesOnByLetter_76 ?_
          exact z_zret dX5_goesOnByLetter_77 (Or.inl rfl) ⟨_, _, Or.inr ⟨(by
      refine ⟨?_, Fr.rf, hR⟩
      unfold mletter
      rw [if_neg k_1_0, if_neg k_1_1, if_neg k_1_2, if_neg k_1_3]), rfl⟩, rfl⟩
theorem nwf_X5_46 : Cond.fieldLinkNest RX5 46 "PoleBehind$River" "paceAtFirst" "I" "PoleBehind" ∈ NWl := List.mem_of_getElem? (i := 3) rfl
theorem in_X5_goesOnByPace_X2 : ∀ w ∈ wsX20, w ∈ wsX5_goesOnByPace := fun _ h => List.mem_cons_of_mem _ (List.mem_append_left _ (List.mem_append_right _ h))
theorem m_X5_goesOnByPace_f16 : Cond.fieldLink RX5 16 "PoleBehind$TextReader" "stage" "I" ∈ wsX5_goesOnByPace := List.mem_of_getElem? (i := 1) rfl
theorem in_X5_goesOnByPace_X5 : ∀ w ∈ wsX50, w ∈ wsX5_goesOnByPace := fun _ h => List.mem_cons_of_mem _ (List.mem_append_right _ h)
set_option maxHeartbeats 4000000 in
set_option maxRecDepth 100000 in
theorem c_X5_goesOnByPace {l : Launch} {D : va_G} {cI cJ cZ cR : ClassId} {q : Nat → Nat} {w d : Nat} {xi : Nat → Int} {xa : Nat → Nat → Int} (hq : qOk 31 q) {b : Nat} {t : Int} (hb : b < 2) (hR : RdOk xi xa b) (ht : -2147483648 ≤ t ∧ t < 2147483648) : Cti l D vwCl (tysC cI cJ cZ cR) 31 q yX5_goesOnByPace wsX5_goesOnByPace ({ frames := 0, cells := 0, slots := 0, locals := 0 } : Room) [.ref (q 20), .int (iI t), .ref (q (10 + b))] (cX cI cJ cZ cR q w d xi xa) (fun (r : Int32) (g : Nat → va_E) => ∃ (xi' : Nat → Int) (xa' : Nat → Nat → Int), (((mpace t (mvX xi xa b) = some (mvX xi' xa' b) ∧ Fr xi xa xi' xa' b ∧ RdOk xi' xa' b) ∧ r = iI 1) ∨ ((mpace t (mvX xi xa b) = none ∧ Fr xi xa xi' xa' b ∧ RdOk xi' xa' b) ∧ r = iI 0)) ∧ g = (cX cI cJ cZ cR q w d xi' xa')) := by
  refine Cti.of (cc := cX5_goesOnByPace) (nL := 3) (own := RX5) (ret := (some .boolean)) (by decide) rfl rfl hq (Nat.le_of_ble_eq_true rfl) (fun p e s m args below meth c => ?_)
  obtain ⟨⟨hN, hP, hK, hM, hD, hB⟩, hS, hC⟩ := id hR
  have hO := RdOk_iff.mp hR
  refine z_iload_n (j := 1) dX5_goesOnByPace_0 rfl rfl ?_
  refine z_if_lt (tgt := 9) dX5_goesOnByPace_1 (by decide) (by omega) (fun c_1 => ?_) (fun c_1 => ?_)
  · refine z_iconst dX5_goesOnByPace_9 ?_
    exact z_zret dX5_goesOnByPace_10 (Or.inl rfl) ⟨_, _, Or.inr ⟨(by
      refine ⟨?_, Fr.rf, hR⟩
      show (if 0 ≤ t ∧ t ≤ 3 then _ else none) = none
      rw [if_neg (by omega)]), rfl⟩, rfl⟩
  · refine z_iload_n (j := 1) dX5_goesOnByPace_4 rfl rfl ?_
    refine z_iconst dX5_goesOnByPace_5 ?_
    refine z_icmp_le (tgt := 11) dX5_goesOnByPace_6 (by decide) (by omega) (by decide) (fun c_6 => ?_) (fun c_6 => ?_)
    · refine z_aload_n (j := 2) dX5_goesOnByPace_11 rfl rfl ?_
      refine z_iload_n (j := 1) dX5_goesOnByPace_12 rfl rfl ?_
      refine z_putfN (i := 10 + b) (ci := 2) (k := 5) (cX cI cJ cZ cR q w d (va_up xi (12 + b) t) xa) dX5_goesOnByPace_13 nwf_X5_46 in_X5_goesOnByPace_X2 rfl (by decide) rfl (by omega) (cX_rv hb) tyX2_ok nmX2 rfl rfl rfl (Nat.le_of_ble_eq_true rfl) (lx_pace hb) ?_
      refine z_aload_n (j := 0) dX5_goesOnByPace_16 rfl rfl ?_
      refine z_iconst dX5_goesOnByPace_17 ?_
      refine z_putf (i := 20) (ci := 5) (k := 0) (cX cI cJ cZ cR q w d (va_up (va_up xi (12 + b) t) 14 2) xa) dX5_goesOnByPace_18 m_X5_goesOnByPace_f16 in_X5_goesOnByPace_X5 rfl (by decide) rfl (by omega) rfl tyX5_ok nmX5 rfl rfl rfl (Nat.le_of_ble_eq_true rfl) lx_stage ?_
      refine z_iconst dX5_goesOnByPace_21 ?_
      exact z_zret dX5_goesOnByPace_22 (Or.inr rfl) ⟨_, _, Or.inl ⟨(by
      have hs : mpace t (mvX xi xa b) = some (mvX (va_up (va_up xi (12 + b) t) 14 2) xa b) := by
        rw [mv_pace hb]
        show (if 0 ≤ t ∧ t ≤ 3 then _ else none) = _
        rw [if_pos (by omega)]
      exact ⟨hs, ⟨fun k h1 h2 h3 => by rw [up_n h1, up_n h3], fun k h1 h2 h3 h4 => rfl⟩, RdOk_iff.mpr (mpace_ok hO hs)⟩), rfl⟩, rfl⟩
    · refine z_iconst dX5_goesOnByPace_9 ?_
      exact z_zret dX5_goesOnByPace_10 (Or.inl rfl) ⟨_, _, Or.inr ⟨(by
      refine ⟨?_, Fr.rf, hR⟩
      show (if 0 ≤ t ∧ t ≤ 3 then _ else none) = none
      rw [if_neg (by omega)]), rfl⟩, rfl⟩
theorem in_X5_goesOnByMud_X2 : ∀ w ∈ wsX20, w ∈ wsX5_goesOnByMud := fun _ h => List.mem_cons_of_mem _ (List.mem_append_left _ (List.mem_append_right _ h))
theorem cd_X2_setMud : yX2_setMud.cls = RX2 ∧ yX2_setMud.cls ≠ "java/lang/invoke/MethodHandle" ∧ yX2_setMud.cls ≠ "java/lang/invoke/VarHandle" ∧ (parseMethodDescriptor yX2_setMud.desc).map (fun d => d.parameters.length) = some 2 := ⟨rfl, by decide +kernel, by decide +kernel, by decide +kernel⟩
theorem m_X5_goesOnByMud_f16 : Cond.fieldLink RX5 16 "PoleBehind$TextReader" "stage" "I" ∈ wsX5_goesOnByMud := List.mem_of_getElem? (i := 1) rfl
theorem in_X5_goesOnByMud_X5 : ∀ w ∈ wsX50, w ∈ wsX5_goesOnByMud := fun _ h => List.mem_cons_of_mem _ (List.mem_append_right _ h)
set_option maxHeartbeats 4000000 in
set_option maxRecDepth 100000 in
theorem c_X5_goesOnByMud {l : Launch} {D : va_G} {cI cJ cZ cR : ClassId} {q : Nat → Nat} {w d : Nat} {xi : Nat → Int} {xa : Nat → Nat → Int} (hq : qOk 31 q) {b : Nat} {t : Int} (hb : b < 2) (hR : RdOk xi xa b) (ht : -2147483648 ≤ t ∧ t < 2147483648) (h3 : xi 14 = 3) : Cti l D vwCl (tysC cI cJ cZ cR) 31 q yX5_goesOnByMud wsX5_goesOnByMud ({ frames := 2, cells := 0, slots := 0, locals := 43 } : Room) [.ref (q 20), .int (iI t), .ref (q (10 + b))] (cX cI cJ cZ cR q w d xi xa) (fun (r : Int32) (g : Nat → va_E) => ∃ (xi' : Nat → Int) (xa' : Nat → Nat → Int), (((mmud t (mvX xi xa b) = some (mvX xi' xa' b) ∧ Fr xi xa xi' xa' b ∧ RdOk xi' xa' b) ∧ r = iI 1) ∨ ((mmud t (mvX xi xa b) = none ∧ Fr xi xa xi' xa' b ∧ RdOk xi' xa' b) ∧ r = iI 0)) ∧ g = (cX cI cJ cZ cR q w d xi' xa')) := by
  refine Cti.of (cc := cX5_goesOnByMud) (nL := 3) (own := RX5) (ret := (some .boolean)) (by decide) rfl rfl hq (Nat.le_of_ble_eq_true rfl) (fun p e s m args below meth c => ?_)
  obtain ⟨⟨hN, hP, hK, hM, hD, hB⟩, hS, hC⟩ := id hR
  have hO := RdOk_iff.mp hR
  refine z_iload_n (j := 1) dX5_goesOnByMud_0 rfl rfl ?_
  refine z_if_lt (tgt := 10) dX5_goesOnByMud_1 (by decide) (by omega) (fun c_1 => ?_) (fun c_1 => ?_)
  · refine z_iconst dX5_goesOnByMud_10 ?_
    exact z_zret dX5_goesOnByMud_11 (Or.inl rfl) ⟨_, _, Or.inr ⟨(by
      refine ⟨?_, Fr.rf, hR⟩
      show (if 0 ≤ t ∧ t ≤ 9 then _ else none) = none
      rw [if_neg (by omega)]), rfl⟩, rfl⟩
  · refine z_iload_n (j := 1) dX5_goesOnByMud_4 rfl rfl ?_
    refine z_bipush dX5_goesOnByMud_5 (by decide) ?_
    refine z_icmp_le (tgt := 12) dX5_goesOnByMud_7 (by decide) (by omega) (by decide) (fun c_7 => ?_) (fun c_7 => ?_)
    · refine z_aload_n (j := 2) dX5_goesOnByMud_12 rfl rfl ?_
      refine z_aload_n (j := 2) dX5_goesOnByMud_13 rfl rfl ?_
      refine z_getfN (i := 10 + b) (ci := 2) (k := 4) (v := .int (iI (xi (10 + b)))) dX5_goesOnByMud_14 nwf_X5_30 in_X5_goesOnByMud_X2 rfl (by decide) rfl (by omega) (cX_rv hb) rfl ?_
      refine z_iconst dX5_goesOnByMud_17 ?_
      refine z_isub dX5_goesOnByMud_18 ?_
      refine z_iload_n (j := 1) dX5_goesOnByMud_19 rfl rfl ?_
      refine z_callVv (i := 10 + b) (ci := 2) (As := [.int (iI ((xi (10 + b)) - 1)), .int (iI t)]) (rest := []) (c_X2_setMud  hq hb hR.1 (by omega) (by omega)) dX5_goesOnByMud_20 gX5_goesOnByMud_X2_setMud rfl cd_X2_setMud ⟨Nat.le_of_ble_eq_true rfl, Nat.le_of_ble_eq_true rfl⟩ rfl rfl (by omega) (cX_rv hb) rfl rfl (Nat.le_of_ble_eq_true rfl) ⟨Nat.zero_le _, Nat.zero_le _⟩ (fun g_20 hp_20 => ?_)
      obtain ⟨xa_20, he_20, rfl⟩ := hp_20
      refine z_aload_n (j := 0) dX5_goesOnByMud_23 rfl rfl ?_
      refine z_iconst dX5_goesOnByMud_24 ?_
      refine z_putf (i := 20) (ci := 5) (k := 0) (cX cI cJ cZ cR q w d (va_up xi 14 4) xa_20) dX5_goesOnByMud_25 m_X5_goesOnByMud_f16 in_X5_goesOnByMud_X5 rfl (by decide) rfl (by omega) rfl tyX5_ok nmX5 rfl rfl rfl (Nat.le_of_ble_eq_true rfl) lx_stage ?_
      refine z_iconst dX5_goesOnByMud_28 ?_
      exact z_zret dX5_goesOnByMud_29 (Or.inr rfl) ⟨_, _, Or.inl ⟨(by
      have he := he_20
      rw [if_pos (by omega)] at he
      have hs : mmud t (mvX xi xa b) = some (mvX (va_up xi 14 4) xa_20 b) := by
        rw [he, mv_mud hb]
        show (if 0 ≤ t ∧ t ≤ 9 then _ else none) = _
        rw [if_pos (by omega)]
      refine ⟨hs, ?_, RdOk_iff.mpr (mmud_ok (by show 3 ≤ xi 14; omega) hO hs)⟩
      rw [he]
      exact ⟨fun k h1 h2 h3 => by rw [up_n h1], fun k h1 h2 h3 h4 => by rw [up_n h2]⟩), rfl⟩, rfl⟩
    · refine z_iconst dX5_goesOnByMud_10 ?_
      exact z_zret dX5_goesOnByMud_11 (Or.inl rfl) ⟨_, _, Or.inr ⟨(by
      refine ⟨?_, Fr.rf, hR⟩
      show (if 0 ≤ t ∧ t ≤ 9 then _ else none) = none
      rw [if_neg (by omega)]), rfl⟩, rfl⟩
theorem in_X5_goesOnByBridge_X2 : ∀ w ∈ wsX20, w ∈ wsX5_goesOnByBridge := fun _ h => List.mem_cons_of_mem _ (List.mem_append_left _ (List.mem_append_right _ h))
theorem cd_X2_setBridged : yX2_setBridged.cls = RX2 ∧ yX2_setBridged.cls ≠ "java/lang/invoke/MethodHandle" ∧ yX2_setBridged.cls ≠ "java/lang/invoke/VarHandle" ∧ (parseMethodDescriptor yX2_setBridged.desc).map (fun d => d.parameters.length) = some 2 := ⟨rfl, by decide +kernel, by decide +kernel, by decide +kernel⟩
theorem m_X5_goesOnByBridge_f16 : Cond.fieldLink RX5 16 "PoleBehind$TextReader" "stage" "I" ∈ wsX5_goesOnByBridge := List.mem_of_getElem? (i := 1) rfl
theorem in_X5_goesOnByBridge_X5 : ∀ w ∈ wsX50, w ∈ wsX5_goesOnByBridge := fun _ h => List.mem_cons_of_mem _ (List.mem_append_right _ h)
set_option maxHeartbeats 4000000 in
set_option maxRecDepth 100000 in
theorem c_X5_goesOnByBridge {l : Launch} {D : va_G} {cI cJ cZ cR : ClassId} {q : Nat → Nat} {w d : Nat} {xi : Nat → Int} {xa : Nat → Nat → Int} (hq : qOk 31 q) {b : Nat} (hb : b < 2) (hR : RdOk xi xa b) (h3 : xi 14 = 4) : Cti l D vwCl (tysC cI cJ cZ cR) 31 q yX5_goesOnByBridge wsX5_goesOnByBridge ({ frames := 2, cells := 0, slots := 0, locals := 43 } : Room) [.ref (q 20), .ref (q (10 + b))] (cX cI cJ cZ cR q w d xi xa) (fun (r : Int32) (g : Nat → va_E) => ∃ (xi' : Nat → Int) (xa' : Nat → Nat → Int), (((some (mbrid (mvX xi xa b)) = some (mvX xi' xa' b) ∧ Fr xi xa xi' xa' b ∧ RdOk xi' xa' b) ∧ r = iI 1) ∨ ((some (mbrid (mvX xi xa b)) = none ∧ Fr xi xa xi' xa' b ∧ RdOk xi' xa' b) ∧ r = iI 0)) ∧ g = (cX cI cJ cZ cR q w d xi' xa')) := by
  refine Cti.of (cc := cX5_goesOnByBridge) (nL := 2) (own := RX5) (ret := (some .boolean)) (by decide) rfl rfl hq (Nat.le_of_ble_eq_true rfl) (fun p e s m args below meth c => ?_)
  obtain ⟨⟨hN, hP, hK, hM, hD, hB⟩, hS, hC⟩ := id hR
  have hO := RdOk_iff.mp hR
  refine z_aload_n (j := 1) dX5_goesOnByBridge_0 rfl rfl ?_
  refine z_aload_n (j := 1) dX5_goesOnByBridge_1 rfl rfl ?_
  refine z_getfN (i := 10 + b) (ci := 2) (k := 4) (v := .int (iI (xi (10 + b)))) dX5_goesOnByBridge_2 nwf_X5_30 in_X5_goesOnByBridge_X2 rfl (by decide) rfl (by omega) (cX_rv hb) rfl ?_
  refine z_iconst dX5_goesOnByBridge_5 ?_
  refine z_isub dX5_goesOnByBridge_6 ?_
  refine z_iconst dX5_goesOnByBridge_7 ?_
  refine z_callVv (i := 10 + b) (ci := 2) (As := [.int (iI ((xi (10 + b)) - 1)), .int (iI 1)]) (rest := []) (c_X2_setBridged  hq hb hR.1 (by omega) (by omega)) dX5_goesOnByBridge_8 gX5_goesOnByBridge_X2_setBridged rfl cd_X2_setBridged ⟨Nat.le_of_ble_eq_true rfl, Nat.le_of_ble_eq_true rfl⟩ rfl rfl (by omega) (cX_rv hb) rfl rfl (Nat.le_of_ble_eq_true rfl) ⟨Nat.zero_le _, Nat.zero_le _⟩ (fun g_8 hp_8 => ?_)
  obtain ⟨xa_8, he_8, rfl⟩ := hp_8
  refine z_aload_n (j := 0) dX5_goesOnByBridge_11 rfl rfl ?_
  refine z_iconst dX5_goesOnByBridge_12 ?_
  refine z_putf (i := 20) (ci := 5) (k := 0) (cX cI cJ cZ cR q w d (va_up xi 14 5) xa_8) dX5_goesOnByBridge_13 m_X5_goesOnByBridge_f16 in_X5_goesOnByBridge_X5 rfl (by decide) rfl (by omega) rfl tyX5_ok nmX5 rfl rfl rfl (Nat.le_of_ble_eq_true rfl) lx_stage ?_
  refine z_iconst dX5_goesOnByBridge_16 ?_
  exact z_zret dX5_goesOnByBridge_17 (Or.inr rfl) ⟨_, _, Or.inl ⟨(by
      have he := he_8
      rw [if_pos (by omega)] at he
      have hs : some (mbrid (mvX xi xa b)) = some (mvX (va_up xi 14 5) xa_8 b) := by
        rw [he, mv_brid hb]
        rfl
      refine ⟨hs, ?_, RdOk_iff.mpr (by rw [← Option.some.inj hs]; exact mbrid_ok (by show 3 ≤ xi 14; omega) hO)⟩
      rw [he]
      exact ⟨fun k h1 h2 h3 => by rw [up_n h1], fun k h1 h2 h3 h4 => by rw [up_n h4]⟩), rfl⟩, rfl⟩
theorem m_X5_goesOn_f16 : Cond.fieldLink RX5 16 "PoleBehind$TextReader" "stage" "I" ∈ wsX5_goesOn := List.mem_of_getElem? (i := 1) rfl
theorem in_X5_goesOn_X5 : ∀ w ∈ wsX50, w ∈ wsX5_goesOn := fun _ h => List.mem_cons_of_mem _ (List.mem_append_left _ (List.mem_append_right _ h))
theorem cd_X5_goesOnByPace : yX5_goesOnByPace.cls = RX5 ∧ yX5_goesOnByPace.cls ≠ "java/lang/invoke/MethodHandle" ∧ yX5_goesOnByPace.cls ≠ "java/lang/invoke/VarHandle" ∧ (parseMethodDescriptor yX5_goesOnByPace.desc).map (fun d => d.parameters.length) = some 2 := ⟨rfl, by decide +kernel, by decide +kernel, by decide +kernel⟩
theorem cd_X5_goesOnByLetter : yX5_goesOnByLetter.cls = RX5 ∧ yX5_goesOnByLetter.cls ≠ "java/lang/invoke/MethodHandle" ∧ yX5_goesOnByLetter.cls ≠ "java/lang/invoke/VarHandle" ∧ (parseMethodDescriptor yX5_goesOnByLetter.desc).map (fun d => d.parameters.length) = some 2 := ⟨rfl, by decide +kernel, by decide +kernel, by decide +kernel⟩
theorem cd_X5_goesOnByMud : yX5_goesOnByMud.cls = RX5 ∧ yX5_goesOnByMud.cls ≠ "java/lang/invoke/MethodHandle" ∧ yX5_goesOnByMud.cls ≠ "java/lang/invoke/VarHandle" ∧ (parseMethodDescriptor yX5_goesOnByMud.desc).map (fun d => d.parameters.length) = some 2 := ⟨rfl, by decide +kernel, by decide +kernel, by decide +kernel⟩
theorem cd_X5_goesOnByBridge : yX5_goesOnByBridge.cls = RX5 ∧ yX5_goesOnByBridge.cls ≠ "java/lang/invoke/MethodHandle" ∧ yX5_goesOnByBridge.cls ≠ "java/lang/invoke/VarHandle" ∧ (parseMethodDescriptor yX5_goesOnByBridge.desc).map (fun d => d.parameters.length) = some 1 := ⟨rfl, by decide +kernel, by decide +kernel, by decide +kernel⟩
set_option maxHeartbeats 4000000 in
set_option maxRecDepth 100000 in
theorem c_X5_goesOn {l : Launch} {D : va_G} {cI cJ cZ cR : ClassId} {q : Nat → Nat} {w d : Nat} {xi : Nat → Int} {xa : Nat → Nat → Int} (hq : qOk 31 q) {b : Nat} {code : Int} (hb : b < 2) (hR : RdOk xi xa b) (hc : -2147483648 ≤ code ∧ code < 2147483648) : Cti l D vwCl (tysC cI cJ cZ cR) 31 q yX5_goesOn wsX5_goesOn ({ frames := 3, cells := 0, slots := 0, locals := 67 } : Room) [.ref (q 20), .int (iI code), .ref (q (10 + b))] (cX cI cJ cZ cR q w d xi xa) (fun (r : Int32) (g : Nat → va_E) => ∃ (xi' : Nat → Int) (xa' : Nat → Nat → Int), (((mstep code (mvX xi xa b) = some (mvX xi' xa' b) ∧ Fr xi xa xi' xa' b ∧ RdOk xi' xa' b) ∧ r = iI 1) ∨ ((mstep code (mvX xi xa b) = none ∧ Fr xi xa xi' xa' b ∧ RdOk xi' xa' b) ∧ r = iI 0)) ∧ g = (cX cI cJ cZ cR q w d xi' xa')) := by
  refine Cti.of (cc := cX5_goesOn) (nL := 3) (own := RX5) (ret := (some .boolean)) (by decide) rfl rfl hq (Nat.le_of_ble_eq_true rfl) (fun p e s m args below meth c => ?_)
  obtain ⟨⟨hN, hP, hK, hM, hD, hB⟩, hS, hC⟩ := id hR
  have hO := RdOk_iff.mp hR
  refine z_aload_n (j := 0) dX5_goesOn_0 rfl rfl ?_
  refine z_getf (i := 20) (ci := 5) (k := 0) (v := .int (iI (xi 14))) dX5_goesOn_1 m_X5_goesOn_f16 in_X5_goesOn_X5 rfl (by decide) rfl (by omega) rfl rfl ?_
  by_cases k_4_0 : xi 14 = 0
  · refine z_tsw (kv := 0) (off := 36) (tgt := 40) dX5_goesOn_4 (by omega) k_4_0 (by decide) (by decide) rfl (by decide) ?_
    refine z_aload_n (j := 0) dX5_goesOn_40 rfl rfl ?_
    refine z_iconst dX5_goesOn_41 ?_
    refine z_putf (i := 20) (ci := 5) (k := 0) (cX cI cJ cZ cR q w d (va_up xi 14 1) xa) dX5_goesOn_42 m_X5_goesOn_f16 in_X5_goesOn_X5 rfl (by decide) rfl (by omega) rfl tyX5_ok nmX5 rfl rfl rfl (Nat.le_of_ble_eq_true rfl) lx_stage ?_
    refine z_iload_n (j := 1) dX5_goesOn_45 rfl rfl ?_
    refine z_bipush dX5_goesOn_46 (by decide) ?_
    refine z_icmp_ne (tgt := 55) dX5_goesOn_48 (by decide) (by omega) (by decide) (fun c_48 => ?_) (fun c_48 => ?_)
    · refine z_iconst dX5_goesOn_55 ?_
      exact z_zret dX5_goesOn_56 (Or.inl rfl) ⟨_, _, Or.inr ⟨(by
      show mstep code (mvX xi xa b) = _ ∧ _
      unfold mstep
      rw [if_pos (show (mvX xi xa b).1 = 0 from (show xi 14 = 0 by omega)), if_neg (by omega)]
      exact ⟨rfl, ⟨fun k h1 h2 h3 => by rw [up_n h1], fun k h1 h2 h3 h4 => rfl⟩, RdOk_iff.mpr (by rw [mv_stage hb]; exact ⟨hO.1, by omega, fun q => absurd q (by omega)⟩)⟩), rfl⟩, rfl⟩
    · refine z_iconst dX5_goesOn_51 ?_
      refine z_goto (tgt := 56) dX5_goesOn_52 (by decide) ?_
      exact z_zret dX5_goesOn_56 (Or.inr rfl) ⟨_, _, Or.inl ⟨(by
      show mstep code (mvX xi xa b) = _ ∧ _
      unfold mstep
      rw [if_pos (show (mvX xi xa b).1 = 0 from (show xi 14 = 0 by omega)), if_pos (by omega)]
      exact ⟨by rw [mv_stage hb]; rfl, ⟨fun k h1 h2 h3 => by rw [up_n h1], fun k h1 h2 h3 h4 => rfl⟩, RdOk_iff.mpr (by rw [mv_stage hb]; exact ⟨hO.1, by omega, fun q => absurd q (by omega)⟩)⟩), rfl⟩, rfl⟩
  ·
    by_cases k_4_1 : xi 14 = 1
    · refine z_tsw (kv := 1) (off := 53) (tgt := 57) dX5_goesOn_4 (by omega) k_4_1 (by decide) (by decide) rfl (by decide) ?_
      refine z_aload_n (j := 0) dX5_goesOn_57 rfl rfl ?_
      refine z_iload_n (j := 1) dX5_goesOn_58 rfl rfl ?_
      refine z_bipush dX5_goesOn_59 (by decide) ?_
      refine z_isub dX5_goesOn_61 ?_
      refine z_topi (iI (wr (code - 48))) (iI_wr _) ?_
      refine z_aload_n (j := 2) dX5_goesOn_62 rfl rfl ?_
      refine z_callVi (i := 20) (ci := 5) (As := [.int (iI (wr (code - 48))), .ref (q (10 + b))]) (rest := []) (c_X5_goesOnByPace  hq hb hR (wr_rng _)) dX5_goesOn_63 gX5_goesOn_X5_goesOnByPace rfl cd_X5_goesOnByPace ⟨Nat.le_of_ble_eq_true rfl, Nat.le_of_ble_eq_true rfl⟩ rfl rfl (by omega) rfl rfl rfl (Nat.le_of_ble_eq_true rfl) ⟨Nat.zero_le _, Nat.zero_le _⟩ (fun r_63 g_63 hp_63 => ?_)
      obtain ⟨xi_63, xa_63, ⟨h_63, rfl⟩ | ⟨h_63, rfl⟩, rfl⟩ := hp_63
      · exact z_zret dX5_goesOn_66 (Or.inr rfl) ⟨_, _, Or.inl ⟨(by
      show mstep code (mvX xi xa b) = _ ∧ _
      unfold mstep
      rw [if_neg (show ¬ (mvX xi xa b).1 = 0 from (fun h : xi 14 = 0 => by omega)), if_pos (show (mvX xi xa b).1 = 1 from (show xi 14 = 1 by omega))]
      exact h_63), rfl⟩, rfl⟩
      · exact z_zret dX5_goesOn_66 (Or.inl rfl) ⟨_, _, Or.inr ⟨(by
      show mstep code (mvX xi xa b) = _ ∧ _
      unfold mstep
      rw [if_neg (show ¬ (mvX xi xa b).1 = 0 from (fun h : xi 14 = 0 => by omega)), if_pos (show (mvX xi xa b).1 = 1 from (show xi 14 = 1 by omega))]
      exact h_63), rfl⟩, rfl⟩
    ·
      by_cases k_4_2 : xi 14 = 2
      · refine z_tsw (kv := 2) (off := 94) (tgt := 98) dX5_goesOn_4 (by omega) k_4_2 (by decide) (by decide) rfl (by decide) ?_
        refine z_aload_n (j := 0) dX5_goesOn_98 rfl rfl ?_
        refine z_iload_n (j := 1) dX5_goesOn_99 rfl rfl ?_
        refine z_aload_n (j := 2) dX5_goesOn_100 rfl rfl ?_
        refine z_callVi (i := 20) (ci := 5) (As := [.int (iI code), .ref (q (10 + b))]) (rest := []) (c_X5_goesOnByLetter  hq hb hR (by omega)) dX5_goesOn_101 gX5_goesOn_X5_goesOnByLetter rfl cd_X5_goesOnByLetter ⟨Nat.le_of_ble_eq_true rfl, Nat.le_of_ble_eq_true rfl⟩ rfl rfl (by omega) rfl rfl rfl (Nat.le_of_ble_eq_true rfl) ⟨Nat.zero_le _, Nat.zero_le _⟩ (fun r_101 g_101 hp_101 => ?_)
        obtain ⟨xi_101, xa_101, ⟨h_101, rfl⟩ | ⟨h_101, rfl⟩, rfl⟩ := hp_101
        · exact z_zret dX5_goesOn_104 (Or.inr rfl) ⟨_, _, Or.inl ⟨(by
      show mstep code (mvX xi xa b) = _ ∧ _
      unfold mstep
      first | (rw [if_neg (show ¬ (mvX xi xa b).1 = 0 from (fun h : xi 14 = 0 => by omega)), if_neg (show ¬ (mvX xi xa b).1 = 1 from (fun h : xi 14 = 1 => by omega)), if_neg (show ¬ (mvX xi xa b).1 = 3 from (fun h : xi 14 = 3 => by omega)), if_neg (show ¬ (mvX xi xa b).1 = 4 from (fun h : xi 14 = 4 => by omega))]; exact h_101)), rfl⟩, rfl⟩
        · exact z_zret dX5_goesOn_104 (Or.inl rfl) ⟨_, _, Or.inr ⟨(by
      show mstep code (mvX xi xa b) = _ ∧ _
      unfold mstep
      first | (rw [if_neg (show ¬ (mvX xi xa b).1 = 0 from (fun h : xi 14 = 0 => by omega)), if_neg (show ¬ (mvX xi xa b).1 = 1 from (fun h : xi 14 = 1 => by omega)), if_neg (show ¬ (mvX xi xa b).1 = 3 from (fun h : xi 14 = 3 => by omega)), if_neg (show ¬ (mvX xi xa b).1 = 4 from (fun h : xi 14 = 4 => by omega))]; exact h_101)), rfl⟩, rfl⟩
      ·
        by_cases k_4_3 : xi 14 = 3
        · refine z_tsw (kv := 3) (off := 63) (tgt := 67) dX5_goesOn_4 (by omega) k_4_3 (by decide) (by decide) rfl (by decide) ?_
          refine z_aload_n (j := 0) dX5_goesOn_67 rfl rfl ?_
          refine z_iload_n (j := 1) dX5_goesOn_68 rfl rfl ?_
          refine z_bipush dX5_goesOn_69 (by decide) ?_
          refine z_isub dX5_goesOn_71 ?_
          refine z_topi (iI (wr (code - 48))) (iI_wr _) ?_
          refine z_aload_n (j := 2) dX5_goesOn_72 rfl rfl ?_
          refine z_callVi (i := 20) (ci := 5) (As := [.int (iI (wr (code - 48))), .ref (q (10 + b))]) (rest := []) (c_X5_goesOnByMud  hq hb hR (wr_rng _) (by omega)) dX5_goesOn_73 gX5_goesOn_X5_goesOnByMud rfl cd_X5_goesOnByMud ⟨Nat.le_of_ble_eq_true rfl, Nat.le_of_ble_eq_true rfl⟩ rfl rfl (by omega) rfl rfl rfl (Nat.le_of_ble_eq_true rfl) ⟨Nat.zero_le _, Nat.zero_le _⟩ (fun r_73 g_73 hp_73 => ?_)
          obtain ⟨xi_73, xa_73, ⟨h_73, rfl⟩ | ⟨h_73, rfl⟩, rfl⟩ := hp_73
          · exact z_zret dX5_goesOn_76 (Or.inr rfl) ⟨_, _, Or.inl ⟨(by
      show mstep code (mvX xi xa b) = _ ∧ _
      unfold mstep
      rw [if_neg (show ¬ (mvX xi xa b).1 = 0 from (fun h : xi 14 = 0 => by omega)), if_neg (show ¬ (mvX xi xa b).1 = 1 from (fun h : xi 14 = 1 => by omega)), if_pos (show (mvX xi xa b).1 = 3 from (show xi 14 = 3 by omega))]
      exact h_73), rfl⟩, rfl⟩
          · exact z_zret dX5_goesOn_76 (Or.inl rfl) ⟨_, _, Or.inr ⟨(by
      show mstep code (mvX xi xa b) = _ ∧ _
      unfold mstep
      rw [if_neg (show ¬ (mvX xi xa b).1 = 0 from (fun h : xi 14 = 0 => by omega)), if_neg (show ¬ (mvX xi xa b).1 = 1 from (fun h : xi 14 = 1 => by omega)), if_pos (show (mvX xi xa b).1 = 3 from (show xi 14 = 3 by omega))]
      exact h_73), rfl⟩, rfl⟩
        ·
          by_cases k_4_4 : xi 14 = 4
          · refine z_tsw (kv := 4) (off := 73) (tgt := 77) dX5_goesOn_4 (by omega) k_4_4 (by decide) (by decide) rfl (by decide) ?_
            refine z_iload_n (j := 1) dX5_goesOn_77 rfl rfl ?_
            refine z_bipush dX5_goesOn_78 (by decide) ?_
            refine z_icmp_ne (tgt := 91) dX5_goesOn_80 (by decide) (by omega) (by decide) (fun c_80 => ?_) (fun c_80 => ?_)
            · refine z_aload_n (j := 0) dX5_goesOn_91 rfl rfl ?_
              refine z_iload_n (j := 1) dX5_goesOn_92 rfl rfl ?_
              refine z_aload_n (j := 2) dX5_goesOn_93 rfl rfl ?_
              refine z_callVi (i := 20) (ci := 5) (As := [.int (iI code), .ref (q (10 + b))]) (rest := []) (c_X5_goesOnByLetter  hq hb hR (by omega)) dX5_goesOn_94 gX5_goesOn_X5_goesOnByLetter rfl cd_X5_goesOnByLetter ⟨Nat.le_of_ble_eq_true rfl, Nat.le_of_ble_eq_true rfl⟩ rfl rfl (by omega) rfl rfl rfl (Nat.le_of_ble_eq_true rfl) ⟨Nat.zero_le _, Nat.zero_le _⟩ (fun r_94 g_94 hp_94 => ?_)
              obtain ⟨xi_94, xa_94, ⟨h_94, rfl⟩ | ⟨h_94, rfl⟩, rfl⟩ := hp_94
              · exact z_zret dX5_goesOn_97 (Or.inr rfl) ⟨_, _, Or.inl ⟨(by
      show mstep code (mvX xi xa b) = _ ∧ _
      unfold mstep
      rw [if_neg (show ¬ (mvX xi xa b).1 = 0 from (fun h : xi 14 = 0 => by omega)), if_neg (show ¬ (mvX xi xa b).1 = 1 from (fun h : xi 14 = 1 => by omega)), if_neg (show ¬ (mvX xi xa b).1 = 3 from (fun h : xi 14 = 3 => by omega)), if_pos (show (mvX xi xa b).1 = 4 from (show xi 14 = 4 by omega))]
      first | (rw [if_pos (by omega)]; exact h_85) | (rw [if_neg (by omega)]; exact h_94)), rfl⟩, rfl⟩
              · exact z_zret dX5_goesOn_97 (Or.inl rfl) ⟨_, _, Or.inr ⟨(by
      show mstep code (mvX xi xa b) = _ ∧ _
      unfold mstep
      rw [if_neg (show ¬ (mvX xi xa b).1 = 0 from (fun h : xi 14 = 0 => by omega)), if_neg (show ¬ (mvX xi xa b).1 = 1 from (fun h : xi 14 = 1 => by omega)), if_neg (show ¬ (mvX xi xa b).1 = 3 from (fun h : xi 14 = 3 => by omega)), if_pos (show (mvX xi xa b).1 = 4 from (show xi 14 = 4 by omega))]
      first | (rw [if_pos (by omega)]; exact h_85) | (rw [if_neg (by omega)]; exact h_94)), rfl⟩, rfl⟩
            · refine z_aload_n (j := 0) dX5_goesOn_83 rfl rfl ?_
              refine z_aload_n (j := 2) dX5_goesOn_84 rfl rfl ?_
              refine z_callVi (i := 20) (ci := 5) (As := [.ref (q (10 + b))]) (rest := []) (c_X5_goesOnByBridge  hq hb hR (by omega)) dX5_goesOn_85 gX5_goesOn_X5_goesOnByBridge rfl cd_X5_goesOnByBridge ⟨Nat.le_of_ble_eq_true rfl, Nat.le_of_ble_eq_true rfl⟩ rfl rfl (by omega) rfl rfl rfl (Nat.le_of_ble_eq_true rfl) ⟨Nat.zero_le _, Nat.zero_le _⟩ (fun r_85 g_85 hp_85 => ?_)
              obtain ⟨xi_85, xa_85, ⟨h_85, rfl⟩ | ⟨h_85, rfl⟩, rfl⟩ := hp_85
              · refine z_goto (tgt := 97) dX5_goesOn_88 (by decide) ?_
                exact z_zret dX5_goesOn_97 (Or.inr rfl) ⟨_, _, Or.inl ⟨(by
      show mstep code (mvX xi xa b) = _ ∧ _
      unfold mstep
      rw [if_neg (show ¬ (mvX xi xa b).1 = 0 from (fun h : xi 14 = 0 => by omega)), if_neg (show ¬ (mvX xi xa b).1 = 1 from (fun h : xi 14 = 1 => by omega)), if_neg (show ¬ (mvX xi xa b).1 = 3 from (fun h : xi 14 = 3 => by omega)), if_pos (show (mvX xi xa b).1 = 4 from (show xi 14 = 4 by omega))]
      first | (rw [if_pos (by omega)]; exact h_85) | (rw [if_neg (by omega)]; exact h_94)), rfl⟩, rfl⟩
              · refine z_goto (tgt := 97) dX5_goesOn_88 (by decide) ?_
                exact z_zret dX5_goesOn_97 (Or.inl rfl) ⟨_, _, Or.inr ⟨(by
      show mstep code (mvX xi xa b) = _ ∧ _
      unfold mstep
      rw [if_neg (show ¬ (mvX xi xa b).1 = 0 from (fun h : xi 14 = 0 => by omega)), if_neg (show ¬ (mvX xi xa b).1 = 1 from (fun h : xi 14 = 1 => by omega)), if_neg (show ¬ (mvX xi xa b).1 = 3 from (fun h : xi 14 = 3 => by omega)), if_pos (show (mvX xi xa b).1 = 4 from (show xi 14 = 4 by omega))]
      first | (rw [if_pos (by omega)]; exact h_85) | (rw [if_neg (by omega)]; exact h_94)), rfl⟩, rfl⟩
          ·
            refine z_tswD (tgt := 98) dX5_goesOn_4 (by omega) (by omega) (by decide) ?_
            refine z_aload_n (j := 0) dX5_goesOn_98 rfl rfl ?_
            refine z_iload_n (j := 1) dX5_goesOn_99 rfl rfl ?_
            refine z_aload_n (j := 2) dX5_goesOn_100 rfl rfl ?_
            refine z_callVi (i := 20) (ci := 5) (As := [.int (iI code), .ref (q (10 + b))]) (rest := []) (c_X5_goesOnByLetter  hq hb hR (by omega)) dX5_goesOn_101 gX5_goesOn_X5_goesOnByLetter rfl cd_X5_goesOnByLetter ⟨Nat.le_of_ble_eq_true rfl, Nat.le_of_ble_eq_true rfl⟩ rfl rfl (by omega) rfl rfl rfl (Nat.le_of_ble_eq_true rfl) ⟨Nat.zero_le _, Nat.zero_le _⟩ (fun r_101 g_101 hp_101 => ?_)
            obtain ⟨xi_101, xa_101, ⟨h_101, rfl⟩ | ⟨h_101, rfl⟩, rfl⟩ := hp_101
            · exact z_zret dX5_goesOn_104 (Or.inr rfl) ⟨_, _, Or.inl ⟨(by
      show mstep code (mvX xi xa b) = _ ∧ _
      unfold mstep
      first | (rw [if_neg (show ¬ (mvX xi xa b).1 = 0 from (fun h : xi 14 = 0 => by omega)), if_neg (show ¬ (mvX xi xa b).1 = 1 from (fun h : xi 14 = 1 => by omega)), if_neg (show ¬ (mvX xi xa b).1 = 3 from (fun h : xi 14 = 3 => by omega)), if_neg (show ¬ (mvX xi xa b).1 = 4 from (fun h : xi 14 = 4 => by omega))]; exact h_101)), rfl⟩, rfl⟩
            · exact z_zret dX5_goesOn_104 (Or.inl rfl) ⟨_, _, Or.inr ⟨(by
      show mstep code (mvX xi xa b) = _ ∧ _
      unfold mstep
      first | (rw [if_neg (show ¬ (mvX xi xa b).1 = 0 from (fun h : xi 14 = 0 => by omega)), if_neg (show ¬ (mvX xi xa b).1 = 1 from (fun h : xi 14 = 1 => by omega)), if_neg (show ¬ (mvX xi xa b).1 = 3 from (fun h : xi 14 = 3 => by omega)), if_neg (show ¬ (mvX xi xa b).1 = 4 from (fun h : xi 14 = 4 => by omega))]; exact h_101)), rfl⟩, rfl⟩
theorem cd_X2_clear : yX2_clear.cls = RX2 ∧ yX2_clear.cls ≠ "java/lang/invoke/MethodHandle" ∧ yX2_clear.cls ≠ "java/lang/invoke/VarHandle" ∧ (parseMethodDescriptor yX2_clear.desc).map (fun d => d.parameters.length) = some 0 := ⟨rfl, by decide +kernel, by decide +kernel, by decide +kernel⟩
theorem m_X5_firstFault_f16 : Cond.fieldLink RX5 16 "PoleBehind$TextReader" "stage" "I" ∈ wsX5_firstFault := List.mem_of_getElem? (i := 1) rfl
theorem in_X5_firstFault_X5 : ∀ w ∈ wsX50, w ∈ wsX5_firstFault := fun _ h => List.mem_cons_of_mem _ (List.mem_append_left _ (List.mem_append_left _ (List.mem_append_right _ h)))
theorem in_X5_firstFault_X2 : ∀ w ∈ wsX20, w ∈ wsX5_firstFault := fun _ h => List.mem_cons_of_mem _ (List.mem_append_left _ (List.mem_append_right _ h))
theorem cd_X3_at : yX3_at.cls = RX3 ∧ yX3_at.cls ≠ "java/lang/invoke/MethodHandle" ∧ yX3_at.cls ≠ "java/lang/invoke/VarHandle" ∧ (parseMethodDescriptor yX3_at.desc).map (fun d => d.parameters.length) = some 1 := ⟨rfl, by decide +kernel, by decide +kernel, by decide +kernel⟩
theorem cd_X5_goesOn : yX5_goesOn.cls = RX5 ∧ yX5_goesOn.cls ≠ "java/lang/invoke/MethodHandle" ∧ yX5_goesOn.cls ≠ "java/lang/invoke/VarHandle" ∧ (parseMethodDescriptor yX5_goesOn.desc).map (fun d => d.parameters.length) = some 2 := ⟨rfl, by decide +kernel, by decide +kernel, by decide +kernel⟩
set_option maxHeartbeats 4000000 in
set_option maxRecDepth 100000 in
theorem c_X5_firstFault {l : Launch} {D : va_G} {cI cJ cZ cR : ClassId} {q : Nat → Nat} {w d : Nat} {xi : Nat → Int} {xa : Nat → Nat → Int} (hq : qOk 31 q) {j b : Nat} {i nn : Int} (hj : j < 4) (hb : b < 2) (hRow : RowOk xi xa j) (hRv : RvOk xi xa b) (hi : 0 ≤ i ∧ 0 ≤ nn ∧ i + nn ≤ xi (6 + j)) : Cti l D vwCl (tysC cI cJ cZ cR) 31 q yX5_firstFault wsX5_firstFault ({ frames := 4, cells := 0, slots := 0, locals := 89 } : Room) [.ref (q 20), .ref (q (2 + j)), .int (iI i), .int (iI nn), .ref (q (10 + b))] (cX cI cJ cZ cR q w d xi xa) (fun (r : Int32) (g : Nat → va_E) => ∃ (e : Int) (xi' : Nat → Int) (xa' : Nat → Nat → Int), (mend ((0, 0, 0, xa (4 + b), xa (6 + b), xa (8 + b), xa (10 + b)) : MS) (fun k => xa j (i.toNat + k)) nn.toNat e (mvX xi' xa' b) ∧ Fr xi xa xi' xa' b ∧ RdOk xi' xa' b) ∧ r = iI e ∧ g = (cX cI cJ cZ cR q w d xi' xa')) := by
  refine Cti.of (cc := cX5_firstFault) (nL := 6) (own := RX5) (ret := (some .int)) (by decide) rfl rfl hq (Nat.le_of_ble_eq_true rfl) (fun p e s m args below meth c => ?_)
  obtain ⟨hN, hP, hK, hM, hD, hB⟩ := id hRv
  obtain ⟨hrL, hrN, hrE⟩ := id hRow
  refine z_aload (j := 4) dX5_firstFault_0 rfl ?_
  refine z_callVv (i := 10 + b) (ci := 2) (As := []) (rest := []) (c_X2_clear  hq hb hRv) dX5_firstFault_2 gX5_firstFault_X2_clear rfl cd_X2_clear ⟨Nat.le_of_ble_eq_true rfl, Nat.le_of_ble_eq_true rfl⟩ rfl rfl (by omega) (cX_rv hb) rfl rfl (Nat.le_of_ble_eq_true rfl) ⟨Nat.zero_le _, Nat.zero_le _⟩ (fun g_2 hp_2 => ?_)
  obtain ⟨xi_2, he_2, rfl⟩ := hp_2
  refine z_aload_n (j := 0) dX5_firstFault_5 rfl rfl ?_
  refine z_iconst dX5_firstFault_6 ?_
  refine z_putf (i := 20) (ci := 5) (k := 0) (cX cI cJ cZ cR q w d (va_up xi_2 14 0) xa) dX5_firstFault_7 m_X5_firstFault_f16 in_X5_firstFault_X5 rfl (by decide) rfl (by omega) rfl tyX5_ok nmX5 rfl rfl rfl (Nat.le_of_ble_eq_true rfl) lx_stage ?_
  refine z_iconst dX5_firstFault_10 ?_
  refine z_istore [(5, .int (iI 0)), (0, .ref (q 20)), (1, .ref (q (2 + j))), (2, .int (iI i)), (3, .int (iI nn)), (4, .ref (q (10 + b)))] dX5_firstFault_11 (by decide) rfl ?_
  have hl_13 : ∀ (N_13 : Nat) (u : Int) (yi : Nat → Int) (ya : Nat → Nat → Int), (61 - u).toNat < N_13 → (0 ≤ u ∧ u ≤ nn) → (mrun ((0, 0, 0, xa (4 + b), xa (6 + b), xa (8 + b), xa (10 + b)) : MS) (fun k => xa j (i.toNat + k)) u.toNat = .inl (mvX yi ya b)) → (Fr xi xa yi ya b) → (RdOk yi ya b) → ZMi l D vwCl (tysC cI cJ cZ cR) 31 q ({ frames := 4, cells := 0, slots := 0, locals := 89 } : Room) cX5_firstFault 6 RX5 wsX5_firstFault (some .int) (fun (r : Int32) (g : Nat → va_E) => ∃ (e : Int) (xi' : Nat → Int) (xa' : Nat → Nat → Int), (mend ((0, 0, 0, xa (4 + b), xa (6 + b), xa (8 + b), xa (10 + b)) : MS) (fun k => xa j (i.toNat + k)) nn.toNat e (mvX xi' xa' b) ∧ Fr xi xa xi' xa' b ∧ RdOk xi' xa' b) ∧ r = iI e ∧ g = (cX cI cJ cZ cR q w d xi' xa')) p e s m args below meth c (cX cI cJ cZ cR q w d yi ya) 13 [(5, .int (iI u)), (0, .ref (q 20)), (1, .ref (q (2 + j))), (2, .int (iI i)), (3, .int (iI nn)), (4, .ref (q (10 + b)))] [] := by
    intro N_13
    induction N_13 with
    | zero => intro u yi ya hm; exact absurd hm (Nat.not_lt_zero _)
    | succ N_13 ih_13 =>
      intro u yi ya hm_13 hu hr hF hO
      have hrw := RowOk.fr hj hb hF hRow
      obtain ⟨hOv, hOs, hOc⟩ := id hO
      have hOn := hOv.1
      refine z_iload (j := 0) dX5_firstFault_13 rfl ?_
      refine z_iload_n (j := 4) dX5_firstFault_15 rfl rfl ?_
      refine z_icmp_ge (tgt := 45) dX5_firstFault_16 (by decide) (by omega) (by omega) (fun c_16 => ?_) (fun c_16 => ?_)
      · refine z_aload_n (j := 1) dX5_firstFault_45 rfl rfl ?_
        refine z_getf (i := 20) (ci := 5) (k := 0) (v := .int (iI (yi 14))) dX5_firstFault_46 m_X5_firstFault_f16 in_X5_firstFault_X5 rfl (by decide) rfl (by omega) rfl rfl ?_
        refine z_iconst dX5_firstFault_49 ?_
        refine z_icmp_eq (tgt := 61) dX5_firstFault_50 (by decide) (by omega) (by decide) (fun c_50 => ?_) (fun c_50 => ?_)
        · refine z_iconst dX5_firstFault_61 ?_
          refine z_goto (tgt := 66) dX5_firstFault_62 (by decide) ?_
          refine z_istore [(5, .int (iI 1)), (0, .ref (q 20)), (1, .ref (q (2 + j))), (2, .int (iI i)), (3, .int (iI nn)), (4, .ref (q (10 + b)))] dX5_firstFault_66 (by decide) rfl ?_
          refine z_iload (j := 0) dX5_firstFault_68 rfl ?_
          refine z_if_eq (tgt := 87) dX5_firstFault_70 (by decide) (by decide) (fun h => absurd h (by decide)) (fun _ => ?_)
          refine z_aload (j := 5) dX5_firstFault_73 rfl ?_
          refine z_getfN (i := 10 + b) (ci := 2) (k := 4) (v := .int (iI (yi (10 + b)))) dX5_firstFault_75 nwf_X5_30 in_X5_firstFault_X2 rfl (by decide) rfl (by omega) (cX_rv hb) rfl ?_
          refine z_iconst dX5_firstFault_78 ?_
          refine z_icmp_lt (tgt := 87) dX5_firstFault_79 (by decide) (by omega) (by decide) (fun c_79 => ?_) (fun c_79 => ?_)
          · refine z_iload_n (j := 4) dX5_firstFault_87 rfl rfl ?_
            exact z_iret dX5_firstFault_88 ⟨_, _, _, (by
      refine ⟨?_, hF, hO⟩
      have hun : u.toNat = nn.toNat := by omega
      unfold mend
      rw [← hun, hr]
      show ((yi 14 = 4 ∨ yi 14 = 5) ∧ 2 ≤ yi (10 + b) ∧ _ ∧ _) ∨ (¬ ((yi 14 = 4 ∨ yi 14 = 5) ∧ 2 ≤ yi (10 + b)) ∧ _)
      first | exact Or.inr ⟨by omega, by omega⟩ | exact Or.inl ⟨by omega, by omega, rfl, rfl⟩), rfl, rfl⟩
          · refine z_bipush dX5_firstFault_82 (by decide) ?_
            refine z_goto (tgt := 88) dX5_firstFault_84 (by decide) ?_
            exact z_iret dX5_firstFault_88 ⟨_, _, _, (by
      refine ⟨?_, hF, hO⟩
      have hun : u.toNat = nn.toNat := by omega
      unfold mend
      rw [← hun, hr]
      show ((yi 14 = 4 ∨ yi 14 = 5) ∧ 2 ≤ yi (10 + b) ∧ _ ∧ _) ∨ (¬ ((yi 14 = 4 ∨ yi 14 = 5) ∧ 2 ≤ yi (10 + b)) ∧ _)
      first | exact Or.inr ⟨by omega, by omega⟩ | exact Or.inl ⟨by omega, by omega, rfl, rfl⟩), rfl, rfl⟩
        · refine z_aload_n (j := 1) dX5_firstFault_53 rfl rfl ?_
          refine z_getf (i := 20) (ci := 5) (k := 0) (v := .int (iI (yi 14))) dX5_firstFault_54 m_X5_firstFault_f16 in_X5_firstFault_X5 rfl (by decide) rfl (by omega) rfl rfl ?_
          refine z_iconst dX5_firstFault_57 ?_
          refine z_icmp_ne (tgt := 65) dX5_firstFault_58 (by decide) (by omega) (by decide) (fun c_58 => ?_) (fun c_58 => ?_)
          · refine z_iconst dX5_firstFault_65 ?_
            refine z_istore [(5, .int (iI 0)), (0, .ref (q 20)), (1, .ref (q (2 + j))), (2, .int (iI i)), (3, .int (iI nn)), (4, .ref (q (10 + b)))] dX5_firstFault_66 (by decide) rfl ?_
            refine z_iload (j := 0) dX5_firstFault_68 rfl ?_
            refine z_if_eq (tgt := 87) dX5_firstFault_70 (by decide) (by decide) (fun _ => ?_) (fun h => absurd h (by decide))
            refine z_iload_n (j := 4) dX5_firstFault_87 rfl rfl ?_
            exact z_iret dX5_firstFault_88 ⟨_, _, _, (by
      refine ⟨?_, hF, hO⟩
      have hun : u.toNat = nn.toNat := by omega
      unfold mend
      rw [← hun, hr]
      show ((yi 14 = 4 ∨ yi 14 = 5) ∧ 2 ≤ yi (10 + b) ∧ _ ∧ _) ∨ (¬ ((yi 14 = 4 ∨ yi 14 = 5) ∧ 2 ≤ yi (10 + b)) ∧ _)
      first | exact Or.inr ⟨by omega, by omega⟩ | exact Or.inl ⟨by omega, by omega, rfl, rfl⟩), rfl, rfl⟩
          · refine z_iconst dX5_firstFault_61 ?_
            refine z_goto (tgt := 66) dX5_firstFault_62 (by decide) ?_
            refine z_istore [(5, .int (iI 1)), (0, .ref (q 20)), (1, .ref (q (2 + j))), (2, .int (iI i)), (3, .int (iI nn)), (4, .ref (q (10 + b)))] dX5_firstFault_66 (by decide) rfl ?_
            refine z_iload (j := 0) dX5_firstFault_68 rfl ?_
            refine z_if_eq (tgt := 87) dX5_firstFault_70 (by decide) (by decide) (fun h => absurd h (by decide)) (fun _ => ?_)
            refine z_aload (j := 5) dX5_firstFault_73 rfl ?_
            refine z_getfN (i := 10 + b) (ci := 2) (k := 4) (v := .int (iI (yi (10 + b)))) dX5_firstFault_75 nwf_X5_30 in_X5_firstFault_X2 rfl (by decide) rfl (by omega) (cX_rv hb) rfl ?_
            refine z_iconst dX5_firstFault_78 ?_
            refine z_icmp_lt (tgt := 87) dX5_firstFault_79 (by decide) (by omega) (by decide) (fun c_79 => ?_) (fun c_79 => ?_)
            · refine z_iload_n (j := 4) dX5_firstFault_87 rfl rfl ?_
              exact z_iret dX5_firstFault_88 ⟨_, _, _, (by
      refine ⟨?_, hF, hO⟩
      have hun : u.toNat = nn.toNat := by omega
      unfold mend
      rw [← hun, hr]
      show ((yi 14 = 4 ∨ yi 14 = 5) ∧ 2 ≤ yi (10 + b) ∧ _ ∧ _) ∨ (¬ ((yi 14 = 4 ∨ yi 14 = 5) ∧ 2 ≤ yi (10 + b)) ∧ _)
      first | exact Or.inr ⟨by omega, by omega⟩ | exact Or.inl ⟨by omega, by omega, rfl, rfl⟩), rfl, rfl⟩
            · refine z_bipush dX5_firstFault_82 (by decide) ?_
              refine z_goto (tgt := 88) dX5_firstFault_84 (by decide) ?_
              exact z_iret dX5_firstFault_88 ⟨_, _, _, (by
      refine ⟨?_, hF, hO⟩
      have hun : u.toNat = nn.toNat := by omega
      unfold mend
      rw [← hun, hr]
      show ((yi 14 = 4 ∨ yi 14 = 5) ∧ 2 ≤ yi (10 + b) ∧ _ ∧ _) ∨ (¬ ((yi 14 = 4 ∨ yi 14 = 5) ∧ 2 ≤ yi (10 + b)) ∧ _)
      first | exact Or.inr ⟨by omega, by omega⟩ | exact Or.inl ⟨by omega, by omega, rfl, rfl⟩), rfl, rfl⟩
      · refine z_aload_n (j := 1) dX5_firstFault_19 rfl rfl ?_
        refine z_aload_n (j := 2) dX5_firstFault_20 rfl rfl ?_
        refine z_iload_n (j := 3) dX5_firstFault_21 rfl rfl ?_
        refine z_iload (j := 0) dX5_firstFault_22 rfl ?_
        refine z_iadd dX5_firstFault_24 ?_
        refine z_callVi (i := 2 + j) (ci := 3) (As := [.int (iI (i + u))]) (rest := [.ref (q 20)]) (c_X3_at  hq hj hrw.1 (by omega)) dX5_firstFault_25 gX5_firstFault_X3_at rfl cd_X3_at ⟨Nat.le_of_ble_eq_true rfl, Nat.le_of_ble_eq_true rfl⟩ rfl rfl (by omega) (cX_row hj) rfl rfl (Nat.le_of_ble_eq_true rfl) ⟨Nat.zero_le _, Nat.zero_le _⟩ (fun r_25 g_25 hp_25 => ?_)
        obtain ⟨⟨e_25, he_25, rfl⟩, rfl⟩ := hp_25
        have hin : 0 ≤ i + u ∧ i + u < yi (6 + j) := by rw [hrw.2.1]; omega
        rw [if_pos hin] at he_25
        have hcode : -2147483648 ≤ e_25 ∧ e_25 < 2147483648 := by rw [he_25, hrw.2.2]; exact hrE _
        have hcd : xa j (i.toNat + u.toNat) = e_25 := by
          rw [he_25, hrw.2.2, show (i + u).toNat = i.toNat + u.toNat by omega]
        refine z_aload (j := 5) dX5_firstFault_28 rfl ?_
        refine z_callVi (i := 20) (ci := 5) (As := [.int (iI e_25), .ref (q (10 + b))]) (rest := []) (c_X5_goesOn  hq hb hO hcode) dX5_firstFault_30 gX5_firstFault_X5_goesOn rfl cd_X5_goesOn ⟨Nat.le_of_ble_eq_true rfl, Nat.le_of_ble_eq_true rfl⟩ rfl rfl (by omega) rfl rfl rfl (Nat.le_of_ble_eq_true rfl) ⟨Nat.zero_le _, Nat.zero_le _⟩ (fun r_30 g_30 hp_30 => ?_)
        obtain ⟨xi_30, xa_30, ⟨h_30, rfl⟩ | ⟨h_30, rfl⟩, rfl⟩ := hp_30
        · refine z_if_ne (tgt := 39) dX5_firstFault_33 (by decide) (by decide) (fun _ => ?_) (fun h => absurd h (by decide))
          refine z_iinc (j := 0) [(5, .int (iI (u + 1))), (0, .ref (q 20)), (1, .ref (q (2 + j))), (2, .int (iI i)), (3, .int (iI nn)), (4, .ref (q (10 + b)))] dX5_firstFault_39 rfl (by decide) rfl ?_
          refine z_goto (tgt := 13) dX5_firstFault_42 (by decide) ?_
          exact z_sub [(5, .int (iI (u + 1))), (0, .ref (q 20)), (1, .ref (q (2 + j))), (2, .int (iI i)), (3, .int (iI nn)), (4, .ref (q (10 + b)))] [0, 1, 2, 3, 4, 5] rfl (ih_13 (u + 1) xi_30 xa_30 (by omega) (by omega) (by rw [stepN hu.1]; exact mrun_some hr (by rw [hcd]; exact h_30.1)) (hF.tr h_30.2.1) (h_30.2.2))
        · refine z_if_ne (tgt := 39) dX5_firstFault_33 (by decide) (by decide) (fun h => absurd h (by decide)) (fun _ => ?_)
          refine z_iload (j := 0) dX5_firstFault_36 rfl ?_
          exact z_iret dX5_firstFault_38 ⟨_, _, _, (by
      refine ⟨?_, hF.tr h_30.2.1, h_30.2.2⟩
      have hfe := mrun_fell (mrun_none hr (by rw [hcd]; exact h_30.1)) (nn.toNat - (u.toNat + 1))
      rw [show u.toNat + 1 + (nn.toNat - (u.toNat + 1)) = nn.toNat by omega] at hfe
      unfold mend
      rw [hfe]
      show u = ((u.toNat : Nat) : Int)
      omega), rfl, rfl⟩
  have h0 : mvX (va_up xi_2 14 0) xa b = (0, 0, 0, xa (4 + b), xa (6 + b), xa (8 + b), xa (10 + b)) := by rw [he_2]; exact mv_xi hb 0 0 0
  exact z_sub [(5, .int (iI 0)), (0, .ref (q 20)), (1, .ref (q (2 + j))), (2, .int (iI i)), (3, .int (iI nn)), (4, .ref (q (10 + b)))] [0, 1, 2, 3, 4, 5] rfl (hl_13 _ 0 (va_up xi_2 14 0) xa (Nat.lt_succ_self _) (by omega) (by rw [h0]; rfl) (by rw [he_2]; exact ⟨fun k h1 h2 h3 => by rw [up_n h1, up_n h3, up_n h2], fun k h1 h2 h3 h4 => rfl⟩) (RdOk_iff.mpr (by rw [h0]; exact ⟨⟨by omega, by omega, hK, hM, hD, hB⟩, by omega, fun q => absurd q (by omega)⟩)))
