theorem m_X7_soonest_f20 : Cond.fieldLink RX7 20 "PoleBehind" "water" "LPoleBehind$River;" ∈ wsX7_soonest := List.mem_of_getElem? (i := 1) rfl
theorem in_X7_soonest_X7 : ∀ w ∈ wsX70, w ∈ wsX7_soonest := fun _ h => List.mem_cons_of_mem _ (List.mem_append_left _ (List.mem_append_right _ h))
theorem cd_X2_fewestTurns : yX2_fewestTurns.cls = RX2 ∧ yX2_fewestTurns.cls ≠ "java/lang/invoke/MethodHandle" ∧ yX2_fewestTurns.cls ≠ "java/lang/invoke/VarHandle" ∧ (parseMethodDescriptor yX2_fewestTurns.desc).map (fun d => d.parameters.length) = some 0 := ⟨rfl, by decide +kernel, by decide +kernel, by decide +kernel⟩
set_option maxHeartbeats 400000 in
set_option maxRecDepth 100000 in
theorem c_X7_soonest {l : Launch} {D : va_G} {cI cJ cZ cR : ClassId} {q : Nat → Nat} {w d : Nat} {xi : Nat → Int} {xa : Nat → Nat → Int} (hq : qOk 31 q)  (hO : XOk w d xi xa) : Cti l D vwCl (tysC cI cJ cZ cR) 31 q yX7_soonest wsX7_soonest ({ frames := 6, cells := 0, slots := 0, locals := 145 } : Room) [.ref (q 0)] (cX cI cJ cZ cR q w d xi xa) (fun (r : Int32) (g : Nat → va_E) => (∃ e : Int, (spSoonest (vX w xi xa) e) ∧ r = iI e) ∧ g = (cX cI cJ cZ cR q w d xi xa)) := by
  refine Cti.of (cc := cX7_soonest) (nL := 1) (own := RX7) (ret := (some .int)) (by decide) rfl rfl hq (Nat.le_of_ble_eq_true rfl) (fun p e s m args below meth c => ?_)
  obtain ⟨⟨hw, hd⟩, hRows, hRvs, hn2, ⟨hRd, hRd2⟩, hJ, ⟨hst, hTab⟩, hfa, hsg⟩ := id hO
  have hRw := hRvs w hw
  obtain ⟨hN, hP, hK, hM, hD, hB⟩ := id hRw
  have hnA : rN (aR (vX w xi xa)) = xi (10 + w) := rfl
  have hO0 := XOk_fa (f := 0) hO (by omega)
  refine z_aload_n (j := 0) dX7_soonest_0 rfl rfl ?_
  refine z_getf (i := 0) (ci := 7) (k := 1) (v := .ref (q (10 + w))) dX7_soonest_1 m_X7_soonest_f20 in_X7_soonest_X7 rfl (by decide) rfl (by omega) rfl rfl ?_
  refine z_callVi (i := 10 + w) (ci := 2) (As := []) (rest := []) (c_X2_isNone  hq hw hRw) dX7_soonest_4 gX7_soonest_X2_isNone rfl cd_X2_isNone ⟨Nat.le_of_ble_eq_true rfl, Nat.le_of_ble_eq_true rfl⟩ rfl rfl (by omega) (cX_rv hw) rfl rfl (Nat.le_of_ble_eq_true rfl) ⟨Nat.zero_le _, Nat.zero_le _⟩ (fun r_4 g_4 hp_4 => ?_)
  obtain ⟨⟨h_4, rfl⟩ | ⟨h_4, rfl⟩, rfl⟩ := hp_4
  · refine z_if_eq (tgt := 13) dX7_soonest_7 (by decide) (by decide) (fun h => absurd h (by decide)) (fun _ => ?_)
    refine z_bipush dX7_soonest_10 (by decide) ?_
    exact z_iret dX7_soonest_12 ⟨⟨_, (by unfold spSoonest; rw [if_pos (show rN (aR (vX w xi xa)) = 0 from h_4)]), rfl⟩, rfl⟩
  · refine z_if_eq (tgt := 13) dX7_soonest_7 (by decide) (by decide) (fun _ => ?_) (fun h => absurd h (by decide))
    refine z_aload_n (j := 0) dX7_soonest_13 rfl rfl ?_
    refine z_getf (i := 0) (ci := 7) (k := 1) (v := .ref (q (10 + w))) dX7_soonest_14 m_X7_soonest_f20 in_X7_soonest_X7 rfl (by decide) rfl (by omega) rfl rfl ?_
    refine z_callVi (i := 10 + w) (ci := 2) (As := []) (rest := []) (c_X2_fewestTurns  hq hw hRw (by omega)) dX7_soonest_17 gX7_soonest_X2_fewestTurns rfl cd_X2_fewestTurns ⟨Nat.le_of_ble_eq_true rfl, Nat.le_of_ble_eq_true rfl⟩ rfl rfl (by omega) (cX_rv hw) rfl rfl (Nat.le_of_ble_eq_true rfl) ⟨Nat.zero_le _, Nat.zero_le _⟩ (fun r_17 g_17 hp_17 => ?_)
    obtain ⟨⟨e_17, he_17, rfl⟩, rfl⟩ := hp_17
    exact z_iret dX7_soonest_20 ⟨⟨_, (by unfold spSoonest; rw [if_neg (show ¬ rN (aR (vX w xi xa)) = 0 from h_4)]; exact he_17), rfl⟩, rfl⟩
theorem m_X7_surest_f20 : Cond.fieldLink RX7 20 "PoleBehind" "water" "LPoleBehind$River;" ∈ wsX7_surest := List.mem_of_getElem? (i := 1) rfl
theorem in_X7_surest_X7 : ∀ w ∈ wsX70, w ∈ wsX7_surest := fun _ h => List.mem_cons_of_mem _ (List.mem_append_left _ (List.mem_append_left _ (List.mem_append_right _ h)))
theorem m_X7_surest_f51 : Cond.fieldLink RX7 51 "PoleBehind" "sureTable" "LPoleBehind$SureTable;" ∈ wsX7_surest := List.mem_of_getElem? (i := 2) rfl
theorem cd_X4_fill : yX4_fill.cls = RX4 ∧ yX4_fill.cls ≠ "java/lang/invoke/MethodHandle" ∧ yX4_fill.cls ≠ "java/lang/invoke/VarHandle" ∧ (parseMethodDescriptor yX4_fill.desc).map (fun d => d.parameters.length) = some 1 := ⟨rfl, by decide +kernel, by decide +kernel, by decide +kernel⟩
theorem cd_X4_surestTurns : yX4_surestTurns.cls = RX4 ∧ yX4_surestTurns.cls ≠ "java/lang/invoke/MethodHandle" ∧ yX4_surestTurns.cls ≠ "java/lang/invoke/VarHandle" ∧ (parseMethodDescriptor yX4_surestTurns.desc).map (fun d => d.parameters.length) = some 2 := ⟨rfl, by decide +kernel, by decide +kernel, by decide +kernel⟩
theorem cd_X4_actOf : yX4_actOf.cls = RX4 ∧ yX4_actOf.cls ≠ "java/lang/invoke/MethodHandle" ∧ yX4_actOf.cls ≠ "java/lang/invoke/VarHandle" ∧ (parseMethodDescriptor yX4_actOf.desc).map (fun d => d.parameters.length) = some 3 := ⟨rfl, by decide +kernel, by decide +kernel, by decide +kernel⟩
set_option maxHeartbeats 400000 in
set_option maxRecDepth 100000 in
theorem c_X7_surest {l : Launch} {D : va_G} {cI cJ cZ cR : ClassId} {q : Nat → Nat} {w d : Nat} {xi : Nat → Int} {xa : Nat → Nat → Int} (hq : qOk 31 q) {nn qq : Int} (hO : XOk w d xi xa) (hnn : -2147483648 ≤ nn ∧ nn < 2147483648) (hqq : -2147483648 ≤ qq ∧ qq < 2147483648) : Cti l D vwCl (tysC cI cJ cZ cR) 31 q yX7_surest wsX7_surest ({ frames := 6, cells := 0, slots := 0, locals := 147 } : Room) [.ref (q 0), .int (iI nn), .int (iI qq)] (cX cI cJ cZ cR q w d xi xa) (fun (r : Int32) (g : Nat → va_E) => ∃ (e : Int) (xi' : Nat → Int) (xa' : Nat → Nat → Int), (spSurest (vX w xi xa) nn qq e ∧ (vX w xi' xa') = (vX w xi xa) ∧ XOk w d xi' xa') ∧ r = iI e ∧ g = (cX cI cJ cZ cR q w d xi' xa')) := by
  refine Cti.of (cc := cX7_surest) (nL := 4) (own := RX7) (ret := (some .int)) (by decide) rfl rfl hq (Nat.le_of_ble_eq_true rfl) (fun p e s m args below meth c => ?_)
  obtain ⟨⟨hw, hd⟩, hRows, hRvs, hn2, ⟨hRd, hRd2⟩, hJ, ⟨hst, hTab⟩, hfa, hsg⟩ := id hO
  have hRw := hRvs w hw
  obtain ⟨hN, hP, hK, hM, hD, hB⟩ := id hRw
  have hnA : rN (aR (vX w xi xa)) = xi (10 + w) := rfl
  have hO0 := XOk_fa (f := 0) hO (by omega)
  refine z_iload_n (j := 1) dX7_surest_0 rfl rfl ?_
  refine z_iconst dX7_surest_1 ?_
  refine z_icmp_lt (tgt := 22) dX7_surest_2 (by decide) (by omega) (by decide) (fun c_2 => ?_) (fun c_2 => ?_)
  · refine z_bipush dX7_surest_22 (by decide) ?_
    exact z_iret dX7_surest_24 ⟨_, _, _, (by unfold spSurest; rw [if_pos (by omega)]; exact ⟨rfl, rfl, hO⟩), rfl, rfl⟩
  · refine z_iload_n (j := 1) dX7_surest_5 rfl rfl ?_
    refine z_bipush dX7_surest_6 (by decide) ?_
    refine z_icmp_gt (tgt := 22) dX7_surest_8 (by decide) (by omega) (by decide) (fun c_8 => ?_) (fun c_8 => ?_)
    · refine z_bipush dX7_surest_22 (by decide) ?_
      exact z_iret dX7_surest_24 ⟨_, _, _, (by unfold spSurest; rw [if_pos (by omega)]; exact ⟨rfl, rfl, hO⟩), rfl, rfl⟩
    · refine z_iload_n (j := 2) dX7_surest_11 rfl rfl ?_
      refine z_iconst dX7_surest_12 ?_
      refine z_icmp_lt (tgt := 22) dX7_surest_13 (by decide) (by omega) (by decide) (fun c_13 => ?_) (fun c_13 => ?_)
      · refine z_bipush dX7_surest_22 (by decide) ?_
        exact z_iret dX7_surest_24 ⟨_, _, _, (by unfold spSurest; rw [if_pos (by omega)]; exact ⟨rfl, rfl, hO⟩), rfl, rfl⟩
      · refine z_iload_n (j := 2) dX7_surest_16 rfl rfl ?_
        refine z_bipush dX7_surest_17 (by decide) ?_
        refine z_icmp_lt (tgt := 25) dX7_surest_19 (by decide) (by omega) (by decide) (fun c_19 => ?_) (fun c_19 => ?_)
        · refine z_aload_n (j := 0) dX7_surest_25 rfl rfl ?_
          refine z_getf (i := 0) (ci := 7) (k := 1) (v := .ref (q (10 + w))) dX7_surest_26 m_X7_surest_f20 in_X7_surest_X7 rfl (by decide) rfl (by omega) rfl rfl ?_
          refine z_callVi (i := 10 + w) (ci := 2) (As := []) (rest := []) (c_X2_isNone  hq hw hRw) dX7_surest_29 gX7_surest_X2_isNone rfl cd_X2_isNone ⟨Nat.le_of_ble_eq_true rfl, Nat.le_of_ble_eq_true rfl⟩ rfl rfl (by omega) (cX_rv hw) rfl rfl (Nat.le_of_ble_eq_true rfl) ⟨Nat.zero_le _, Nat.zero_le _⟩ (fun r_29 g_29 hp_29 => ?_)
          obtain ⟨⟨h_29, rfl⟩ | ⟨h_29, rfl⟩, rfl⟩ := hp_29
          · refine z_if_eq (tgt := 38) dX7_surest_32 (by decide) (by decide) (fun h => absurd h (by decide)) (fun _ => ?_)
            refine z_bipush dX7_surest_35 (by decide) ?_
            exact z_iret dX7_surest_37 ⟨_, _, _, (by unfold spSurest; rw [if_neg (by omega), if_pos (show rN (aR (vX w xi xa)) = 0 from h_29)]; exact ⟨rfl, rfl, hO⟩), rfl, rfl⟩
          · refine z_if_eq (tgt := 38) dX7_surest_32 (by decide) (by decide) (fun _ => ?_) (fun h => absurd h (by decide))
            refine z_aload_n (j := 0) dX7_surest_38 rfl rfl ?_
            refine z_getf (i := 0) (ci := 7) (k := 6) (v := .ref (q 27)) dX7_surest_39 m_X7_surest_f51 in_X7_surest_X7 rfl (by decide) rfl (by omega) rfl rfl ?_
            refine z_aload_n (j := 0) dX7_surest_42 rfl rfl ?_
            refine z_getf (i := 0) (ci := 7) (k := 1) (v := .ref (q (10 + w))) dX7_surest_43 m_X7_surest_f20 in_X7_surest_X7 rfl (by decide) rfl (by omega) rfl rfl ?_
            refine z_callVv (i := 27) (ci := 4) (As := [.ref (q (10 + w))]) (rest := []) (c_X4_fill  hq hw hRw (by omega) hst hTab) dX7_surest_46 gX7_surest_X4_fill rfl cd_X4_fill ⟨Nat.le_of_ble_eq_true rfl, Nat.le_of_ble_eq_true rfl⟩ rfl rfl (by omega) rfl rfl rfl (Nat.le_of_ble_eq_true rfl) ⟨Nat.zero_le _, Nat.zero_le _⟩ (fun g_46 hp_46 => ?_)
            obtain ⟨xi_46, xa_46, he_46, rfl⟩ := hp_46
            obtain ⟨hT46, ha46, hx46⟩ := he_46
            have hxk : ∀ k, k ≠ 19 → xi_46 k = xi k := fun k h => by rw [hx46]; exact up_n h
            have hRt := RvOk_eq (hxk (10 + w) (by omega)) (hxk (12 + w) (by omega)) (ha46 (4 + w) (by omega)) (ha46 (6 + w) (by omega)) (ha46 (8 + w) (by omega)) (ha46 (10 + w) (by omega)) hRw
            have hRe : rvX xi_46 xa_46 w = rvX xi xa w := rvX_eq (hxk (10 + w) (by omega)) (ha46 (4 + w) (by omega)) (ha46 (6 + w) (by omega)) (ha46 (8 + w) (by omega)) (ha46 (10 + w) (by omega))
            have hTt : TabOk (rvX xi_46 xa_46 w) (xa_46 17) 12 := by rw [hRe]; exact hT46
            have h10 := hxk (10 + w) (by omega)
            have h12 := hxk (12 + w) (by omega)
            have hvT : vX w xi_46 xa_46 = vX w xi xa ∧ XOk w d xi_46 xa_46 := by rw [hx46]; exact ⟨vX_tab hw ha46, XOk_tab hO hT46 ha46⟩
            refine z_aload_n (j := 0) dX7_surest_49 rfl rfl ?_
            refine z_getf (i := 0) (ci := 7) (k := 6) (v := .ref (q 27)) dX7_surest_50 m_X7_surest_f51 in_X7_surest_X7 rfl (by decide) rfl (by omega) rfl rfl ?_
            refine z_aload_n (j := 0) dX7_surest_53 rfl rfl ?_
            refine z_getf (i := 0) (ci := 7) (k := 1) (v := .ref (q (10 + w))) dX7_surest_54 m_X7_surest_f20 in_X7_surest_X7 rfl (by decide) rfl (by omega) rfl rfl ?_
            refine z_iload_n (j := 1) dX7_surest_57 rfl rfl ?_
            refine z_callVi (i := 27) (ci := 4) (As := [.ref (q (10 + w)), .int (iI nn)]) (rest := []) (c_X4_surestTurns  hq hw hRt (by omega) (by omega) hTt) dX7_surest_58 gX7_surest_X4_surestTurns rfl cd_X4_surestTurns ⟨Nat.le_of_ble_eq_true rfl, Nat.le_of_ble_eq_true rfl⟩ rfl rfl (by omega) rfl rfl rfl (Nat.le_of_ble_eq_true rfl) ⟨Nat.zero_le _, Nat.zero_le _⟩ (fun r_58 g_58 hp_58 => ?_)
            obtain ⟨⟨e_58, he_58, rfl⟩, rfl⟩ := hp_58
            rw [hRe, h12] at he_58
            have hsr := surT_rng (RvM_of hRw) (p := xi (12 + w)) (by omega) nn.toNat (by omega)
            rw [← he_58] at hsr
            have hse : (surT (aR (vX w xi xa)) (aP (vX w xi xa)) nn.toNat).2 = e_58 := he_58.symm
            refine z_istore_n [(3, .int (iI e_58)), (0, .ref (q 0)), (1, .int (iI nn)), (2, .int (iI qq))] dX7_surest_61 rfl (by decide) rfl ?_
            refine z_iload_n (j := 0) dX7_surest_62 rfl rfl ?_
            refine z_if_ne (tgt := 69) dX7_surest_63 (by decide) (by omega) (fun c_63 => ?_) (fun c_63 => ?_)
            · refine z_iload_n (j := 3) dX7_surest_69 rfl rfl ?_
              refine z_iconst dX7_surest_70 ?_
              refine z_icmp_ne (tgt := 78) dX7_surest_71 (by decide) (by omega) (by decide) (fun c_71 => ?_) (fun c_71 => ?_)
              · refine z_aload_n (j := 1) dX7_surest_78 rfl rfl ?_
                refine z_getf (i := 0) (ci := 7) (k := 6) (v := .ref (q 27)) dX7_surest_79 m_X7_surest_f51 in_X7_surest_X7 rfl (by decide) rfl (by omega) rfl rfl ?_
                refine z_aload_n (j := 1) dX7_surest_82 rfl rfl ?_
                refine z_getf (i := 0) (ci := 7) (k := 1) (v := .ref (q (10 + w))) dX7_surest_83 m_X7_surest_f20 in_X7_surest_X7 rfl (by decide) rfl (by omega) rfl rfl ?_
                refine z_iload_n (j := 0) dX7_surest_86 rfl rfl ?_
                refine z_iload_n (j := 3) dX7_surest_87 rfl rfl ?_
                refine z_callVi (i := 27) (ci := 4) (As := [.ref (q (10 + w)), .int (iI e_58), .int (iI qq)]) (rest := []) (c_X4_actOf  hq hw hRt (by omega) (by omega) (by omega) hTt (by rw [hRe, h12]; exact hsr.2.2.2 (by omega))) dX7_surest_88 gX7_surest_X4_actOf rfl cd_X4_actOf ⟨Nat.le_of_ble_eq_true rfl, Nat.le_of_ble_eq_true rfl⟩ rfl rfl (by omega) rfl rfl rfl (Nat.le_of_ble_eq_true rfl) ⟨Nat.zero_le _, Nat.zero_le _⟩ (fun r_88 g_88 hp_88 => ?_)
                obtain ⟨⟨e_88, he_88, rfl⟩, rfl⟩ := hp_88
                rw [hRe, h12] at he_88
                exact z_iret dX7_surest_91 ⟨_, _, _, (by
      unfold spSurest; rw [if_neg (by omega), if_neg (show ¬ rN (aR (vX w xi xa)) = 0 from h_29), hse, if_neg (by omega)]
      first
        | (rw [if_pos (by omega)]; exact ⟨rfl, hvT⟩)
        | (rw [if_neg (by omega)]; exact ⟨he_88, hvT⟩)), rfl, rfl⟩
              · refine z_iload_n (j := 0) dX7_surest_74 rfl rfl ?_
                refine z_goto (tgt := 91) dX7_surest_75 (by decide) ?_
                exact z_iret dX7_surest_91 ⟨_, _, _, (by
      unfold spSurest; rw [if_neg (by omega), if_neg (show ¬ rN (aR (vX w xi xa)) = 0 from h_29), hse, if_neg (by omega)]
      first
        | (rw [if_pos (by omega)]; exact ⟨rfl, hvT⟩)
        | (rw [if_neg (by omega)]; exact ⟨he_88, hvT⟩)), rfl, rfl⟩
            · refine z_bipush dX7_surest_66 (by decide) ?_
              exact z_iret dX7_surest_68 ⟨_, _, _, (by unfold spSurest; rw [if_neg (by omega), if_neg (show ¬ rN (aR (vX w xi xa)) = 0 from h_29), hse, if_pos (by omega)]; exact ⟨rfl, hvT⟩), rfl, rfl⟩
        · refine z_bipush dX7_surest_22 (by decide) ?_
          exact z_iret dX7_surest_24 ⟨_, _, _, (by unfold spSurest; rw [if_pos (by omega)]; exact ⟨rfl, rfl, hO⟩), rfl, rfl⟩
theorem m_X7_sure_C152 : Cond.constantLong RX7 152 (lI (-9223372036854775808)) ∈ wsX7_sure := List.mem_of_getElem? (i := 2) (by decide +kernel)
theorem m_X7_sure_f20 : Cond.fieldLink RX7 20 "PoleBehind" "water" "LPoleBehind$River;" ∈ wsX7_sure := List.mem_of_getElem? (i := 1) rfl
theorem in_X7_sure_X7 : ∀ w ∈ wsX70, w ∈ wsX7_sure := fun _ h => List.mem_cons_of_mem _ (List.mem_append_left _ (List.mem_append_left _ (List.mem_append_right _ h)))
theorem m_X7_sure_f51 : Cond.fieldLink RX7 51 "PoleBehind" "sureTable" "LPoleBehind$SureTable;" ∈ wsX7_sure := List.mem_of_getElem? (i := 3) rfl
set_option maxHeartbeats 400000 in
set_option maxRecDepth 100000 in
theorem c_X7_sure {l : Launch} {D : va_G} {cI cJ cZ cR : ClassId} {q : Nat → Nat} {w d : Nat} {xi : Nat → Int} {xa : Nat → Nat → Int} (hq : qOk 31 q) {nn wh : Int} (hO : XOk w d xi xa) (hnn : -2147483648 ≤ nn ∧ nn < 2147483648) (hwh : -2147483648 ≤ wh ∧ wh < 2147483648) : Ctl l D vwCl (tysC cI cJ cZ cR) 31 q yX7_sure wsX7_sure ({ frames := 6, cells := 0, slots := 0, locals := 144 } : Room) [.ref (q 0), .int (iI nn), .int (iI wh)] (cX cI cJ cZ cR q w d xi xa) (fun (r : Int64) (g : Nat → va_E) => ∃ (e : Int) (xi' : Nat → Int) (xa' : Nat → Nat → Int), (spSure (vX w xi xa) nn wh e ∧ (vX w xi' xa') = (vX w xi xa) ∧ XOk w d xi' xa') ∧ r = lI e ∧ g = (cX cI cJ cZ cR q w d xi' xa')) := by
  refine Ctl.of (cc := cX7_sure) (nL := 4) (own := RX7) (ret := (some .long)) (by decide) rfl rfl hq (Nat.le_of_ble_eq_true rfl) (fun p e s m args below meth c => ?_)
  obtain ⟨⟨hw, hd⟩, hRows, hRvs, hn2, ⟨hRd, hRd2⟩, hJ, ⟨hst, hTab⟩, hfa, hsg⟩ := id hO
  have hRw := hRvs w hw
  obtain ⟨hN, hP, hK, hM, hD, hB⟩ := id hRw
  have hnA : rN (aR (vX w xi xa)) = xi (10 + w) := rfl
  have hO0 := XOk_fa (f := 0) hO (by omega)
  refine z_iload_n (j := 1) dX7_sure_0 rfl rfl ?_
  refine z_iconst dX7_sure_1 ?_
  refine z_icmp_lt (tgt := 28) dX7_sure_2 (by decide) (by omega) (by decide) (fun c_2 => ?_) (fun c_2 => ?_)
  · refine z_ldc2 dX7_sure_28 m_X7_sure_C152 ?_
    exact z_lret dX7_sure_31 ⟨_, _, _, (by
      unfold spSure
      first
        | (rw [if_pos (by omega)]; exact ⟨rfl, rfl, hO⟩)
        | (rw [if_pos (by rw [hnA]; omega)]; exact ⟨rfl, rfl, hO⟩)), rfl, rfl⟩
  · refine z_iload_n (j := 1) dX7_sure_5 rfl rfl ?_
    refine z_bipush dX7_sure_6 (by decide) ?_
    refine z_icmp_gt (tgt := 28) dX7_sure_8 (by decide) (by omega) (by decide) (fun c_8 => ?_) (fun c_8 => ?_)
    · refine z_ldc2 dX7_sure_28 m_X7_sure_C152 ?_
      exact z_lret dX7_sure_31 ⟨_, _, _, (by
      unfold spSure
      first
        | (rw [if_pos (by omega)]; exact ⟨rfl, rfl, hO⟩)
        | (rw [if_pos (by rw [hnA]; omega)]; exact ⟨rfl, rfl, hO⟩)), rfl, rfl⟩
    · refine z_iload_n (j := 2) dX7_sure_11 rfl rfl ?_
      refine z_callSi (As := [.int (iI wh)]) (rest := []) (c_X7_isUpperOrLower  hq (by omega)) dX7_sure_12 gX7_sure_X7_isUpperOrLower rfl cd_X7_isUpperOrLower ⟨Nat.le_of_ble_eq_true rfl, Nat.le_of_ble_eq_true rfl⟩ rfl rfl rfl (Nat.le_of_ble_eq_true rfl) ⟨Nat.zero_le _, Nat.zero_le _⟩ (fun r_12 g_12 hp_12 => ?_)
      obtain ⟨⟨h_12, rfl⟩ | ⟨h_12, rfl⟩, rfl⟩ := hp_12
      · refine z_if_eq (tgt := 28) dX7_sure_15 (by decide) (by decide) (fun h => absurd h (by decide)) (fun _ => ?_)
        refine z_aload_n (j := 0) dX7_sure_18 rfl rfl ?_
        refine z_getf (i := 0) (ci := 7) (k := 1) (v := .ref (q (10 + w))) dX7_sure_19 m_X7_sure_f20 in_X7_sure_X7 rfl (by decide) rfl (by omega) rfl rfl ?_
        refine z_callVi (i := 10 + w) (ci := 2) (As := []) (rest := []) (c_X2_isNone  hq hw hRw) dX7_sure_22 gX7_sure_X2_isNone rfl cd_X2_isNone ⟨Nat.le_of_ble_eq_true rfl, Nat.le_of_ble_eq_true rfl⟩ rfl rfl (by omega) (cX_rv hw) rfl rfl (Nat.le_of_ble_eq_true rfl) ⟨Nat.zero_le _, Nat.zero_le _⟩ (fun r_22 g_22 hp_22 => ?_)
        obtain ⟨⟨h_22, rfl⟩ | ⟨h_22, rfl⟩, rfl⟩ := hp_22
        · refine z_if_eq (tgt := 32) dX7_sure_25 (by decide) (by decide) (fun h => absurd h (by decide)) (fun _ => ?_)
          refine z_ldc2 dX7_sure_28 m_X7_sure_C152 ?_
          exact z_lret dX7_sure_31 ⟨_, _, _, (by
      unfold spSure
      first
        | (rw [if_pos (by omega)]; exact ⟨rfl, rfl, hO⟩)
        | (rw [if_pos (by rw [hnA]; omega)]; exact ⟨rfl, rfl, hO⟩)), rfl, rfl⟩
        · refine z_if_eq (tgt := 32) dX7_sure_25 (by decide) (by decide) (fun _ => ?_) (fun h => absurd h (by decide))
          refine z_aload_n (j := 0) dX7_sure_32 rfl rfl ?_
          refine z_getf (i := 0) (ci := 7) (k := 6) (v := .ref (q 27)) dX7_sure_33 m_X7_sure_f51 in_X7_sure_X7 rfl (by decide) rfl (by omega) rfl rfl ?_
          refine z_aload_n (j := 0) dX7_sure_36 rfl rfl ?_
          refine z_getf (i := 0) (ci := 7) (k := 1) (v := .ref (q (10 + w))) dX7_sure_37 m_X7_sure_f20 in_X7_sure_X7 rfl (by decide) rfl (by omega) rfl rfl ?_
          refine z_callVv (i := 27) (ci := 4) (As := [.ref (q (10 + w))]) (rest := []) (c_X4_fill  hq hw hRw (by omega) hst hTab) dX7_sure_40 gX7_sure_X4_fill rfl cd_X4_fill ⟨Nat.le_of_ble_eq_true rfl, Nat.le_of_ble_eq_true rfl⟩ rfl rfl (by omega) rfl rfl rfl (Nat.le_of_ble_eq_true rfl) ⟨Nat.zero_le _, Nat.zero_le _⟩ (fun g_40 hp_40 => ?_)
          obtain ⟨xi_40, xa_40, he_40, rfl⟩ := hp_40
          obtain ⟨hT40, ha40, hx40⟩ := he_40
          have hxk : ∀ k, k ≠ 19 → xi_40 k = xi k := fun k h => by rw [hx40]; exact up_n h
          have hRt := RvOk_eq (hxk (10 + w) (by omega)) (hxk (12 + w) (by omega)) (ha40 (4 + w) (by omega)) (ha40 (6 + w) (by omega)) (ha40 (8 + w) (by omega)) (ha40 (10 + w) (by omega)) hRw
          have hRe : rvX xi_40 xa_40 w = rvX xi xa w := rvX_eq (hxk (10 + w) (by omega)) (ha40 (4 + w) (by omega)) (ha40 (6 + w) (by omega)) (ha40 (8 + w) (by omega)) (ha40 (10 + w) (by omega))
          have hTt : TabOk (rvX xi_40 xa_40 w) (xa_40 17) 12 := by rw [hRe]; exact hT40
          have h10 := hxk (10 + w) (by omega)
          have h12 := hxk (12 + w) (by omega)
          have hvT : vX w xi_40 xa_40 = vX w xi xa ∧ XOk w d xi_40 xa_40 := by rw [hx40]; exact ⟨vX_tab hw ha40, XOk_tab hO hT40 ha40⟩
          refine z_aload_n (j := 0) dX7_sure_43 rfl rfl ?_
          refine z_getf (i := 0) (ci := 7) (k := 6) (v := .ref (q 27)) dX7_sure_44 m_X7_sure_f51 in_X7_sure_X7 rfl (by decide) rfl (by omega) rfl rfl ?_
          refine z_aload_n (j := 0) dX7_sure_47 rfl rfl ?_
          refine z_getf (i := 0) (ci := 7) (k := 1) (v := .ref (q (10 + w))) dX7_sure_48 m_X7_sure_f20 in_X7_sure_X7 rfl (by decide) rfl (by omega) rfl rfl ?_
          refine z_iload_n (j := 1) dX7_sure_51 rfl rfl ?_
          refine z_callVi (i := 27) (ci := 4) (As := [.ref (q (10 + w)), .int (iI nn)]) (rest := []) (c_X4_surestTurns  hq hw hRt (by omega) (by omega) hTt) dX7_sure_52 gX7_sure_X4_surestTurns rfl cd_X4_surestTurns ⟨Nat.le_of_ble_eq_true rfl, Nat.le_of_ble_eq_true rfl⟩ rfl rfl (by omega) rfl rfl rfl (Nat.le_of_ble_eq_true rfl) ⟨Nat.zero_le _, Nat.zero_le _⟩ (fun r_52 g_52 hp_52 => ?_)
          obtain ⟨⟨e_52, he_52, rfl⟩, rfl⟩ := hp_52
          rw [hRe, h12] at he_52
          have hsr := surT_rng (RvM_of hRw) (p := xi (12 + w)) (by omega) nn.toNat (by omega)
          rw [← he_52] at hsr
          have hse : (surT (aR (vX w xi xa)) (aP (vX w xi xa)) nn.toNat).2 = e_52 := he_52.symm
          refine z_istore_n [(3, .int (iI e_52)), (0, .ref (q 0)), (1, .int (iI nn)), (2, .int (iI wh))] dX7_sure_55 rfl (by decide) rfl ?_
          refine z_iload_n (j := 0) dX7_sure_56 rfl rfl ?_
          refine z_if_ne (tgt := 67) dX7_sure_57 (by decide) (by omega) (fun c_57 => ?_) (fun c_57 => ?_)
          · refine z_aload_n (j := 1) dX7_sure_67 rfl rfl ?_
            refine z_getf (i := 0) (ci := 7) (k := 6) (v := .ref (q 27)) dX7_sure_68 m_X7_sure_f51 in_X7_sure_X7 rfl (by decide) rfl (by omega) rfl rfl ?_
            refine z_iload_n (j := 0) dX7_sure_71 rfl rfl ?_
            refine z_aload_n (j := 1) dX7_sure_72 rfl rfl ?_
            refine z_getf (i := 0) (ci := 7) (k := 1) (v := .ref (q (10 + w))) dX7_sure_73 m_X7_sure_f20 in_X7_sure_X7 rfl (by decide) rfl (by omega) rfl rfl ?_
            refine z_callVi (i := 10 + w) (ci := 2) (As := []) (rest := [.int (iI e_52), .ref (q 27)]) (c_X2_start  hq hw hRt) dX7_sure_76 gX7_sure_X2_start rfl cd_X2_start ⟨Nat.le_of_ble_eq_true rfl, Nat.le_of_ble_eq_true rfl⟩ rfl rfl (by omega) (cX_rv hw) rfl rfl (Nat.le_of_ble_eq_true rfl) ⟨Nat.zero_le _, Nat.zero_le _⟩ (fun r_76 g_76 hp_76 => ?_)
            obtain ⟨⟨_, rfl, rfl⟩, rfl⟩ := hp_76
            refine z_callVl (i := 27) (ci := 4) (As := [.int (iI e_52), .int (iI (xi_40 (12 + w)))]) (rest := []) (c_X4_bestOf  hq (by omega) (by omega)) dX7_sure_79 gX7_sure_X4_bestOf rfl cd_X4_bestOf ⟨Nat.le_of_ble_eq_true rfl, Nat.le_of_ble_eq_true rfl⟩ rfl rfl (by omega) rfl rfl rfl (Nat.le_of_ble_eq_true rfl) ⟨Nat.zero_le _, Nat.zero_le _⟩ (fun r_79 g_79 hp_79 => ?_)
            obtain ⟨⟨e_79, he_79, rfl⟩, rfl⟩ := hp_79
            have h79 : e_79 = bestF (rvX xi xa w) e_52.toNat (xi (12 + w)) := by
              rw [he_79, h12, if_pos ⟨by omega, by omega, by omega, by omega⟩, show (e_52 * 64 + xi (12 + w)).toNat = 64 * e_52.toNat + (xi (12 + w)).toNat by omega, hT40 _ _ (by omega) (by rw [show rN (rvX xi xa w) = xi (10 + w) from rfl]; omega), show (((xi (12 + w)).toNat : Nat) : Int) = xi (12 + w) by omega]
            have hbr := bestF_rng (RvM_of hRw) e_52.toNat (xi (12 + w)) (by omega)
            have h1012 := pow10_le (show e_52.toNat ≤ 18 by omega)
            refine z_iload_n (j := 0) dX7_sure_82 rfl rfl ?_
            refine z_callSl (As := [.int (iI e_52)]) (rest := [.long (lI e_79)]) (c_X7_tenTo  hq (by omega)) dX7_sure_83 gX7_sure_X7_tenTo rfl cd_X7_tenTo ⟨Nat.le_of_ble_eq_true rfl, Nat.le_of_ble_eq_true rfl⟩ rfl rfl rfl (Nat.le_of_ble_eq_true rfl) ⟨Nat.zero_le _, Nat.zero_le _⟩ (fun r_83 g_83 hp_83 => ?_)
            obtain ⟨⟨_, rfl, rfl⟩, rfl⟩ := hp_83
            refine z_iload_n (j := 3) dX7_sure_86 rfl rfl ?_
            refine z_callSl (As := [.long (lI e_79), .long (lI (10 ^ e_52.toNat)), .int (iI wh)]) (rest := []) (c_X7_inLeastTerms  hq (by omega) (by omega) (by omega)) dX7_sure_87 gX7_sure_X7_inLeastTerms rfl cd_X7_inLeastTerms ⟨Nat.le_of_ble_eq_true rfl, Nat.le_of_ble_eq_true rfl⟩ rfl rfl rfl (Nat.le_of_ble_eq_true rfl) ⟨Nat.zero_le _, Nat.zero_le _⟩ (fun r_87 g_87 hp_87 => ?_)
            obtain ⟨⟨e_87, he_87, rfl⟩, rfl⟩ := hp_87
            exact z_lret dX7_sure_90 ⟨_, _, _, (by
      unfold spSure; rw [if_neg (by rw [hnA]; omega), hse, if_neg (by omega)]
      refine ⟨?_, hvT⟩
      rw [he_87, h79]
      rfl), rfl, rfl⟩
          · refine z_lconst (z := 0) dX7_sure_60 (by decide) ?_
            refine z_lconst (z := 1) dX7_sure_61 (by decide) ?_
            refine z_iload_n (j := 3) dX7_sure_62 rfl rfl ?_
            refine z_callSl (As := [.long (lI 0), .long (lI 1), .int (iI wh)]) (rest := []) (c_X7_inLeastTerms  hq (by omega) (by omega) (by omega)) dX7_sure_63 gX7_sure_X7_inLeastTerms rfl cd_X7_inLeastTerms ⟨Nat.le_of_ble_eq_true rfl, Nat.le_of_ble_eq_true rfl⟩ rfl rfl rfl (Nat.le_of_ble_eq_true rfl) ⟨Nat.zero_le _, Nat.zero_le _⟩ (fun r_63 g_63 hp_63 => ?_)
            obtain ⟨⟨e_63, he_63, rfl⟩, rfl⟩ := hp_63
            exact z_lret dX7_sure_66 ⟨_, _, _, (by
      unfold spSure; rw [if_neg (by rw [hnA]; omega), hse, if_pos (by omega)]
      refine ⟨?_, hvT⟩
      rw [he_63]
      rcases h_12 with h | h <;> rw [h] <;> decide), rfl, rfl⟩
      · refine z_if_eq (tgt := 28) dX7_sure_15 (by decide) (by decide) (fun _ => ?_) (fun h => absurd h (by decide))
        refine z_ldc2 dX7_sure_28 m_X7_sure_C152 ?_
        exact z_lret dX7_sure_31 ⟨_, _, _, (by
      unfold spSure
      first
        | (rw [if_pos (by omega)]; exact ⟨rfl, rfl, hO⟩)
        | (rw [if_pos (by rw [hnA]; omega)]; exact ⟨rfl, rfl, hO⟩)), rfl, rfl⟩
theorem m_X7_cost_f20 : Cond.fieldLink RX7 20 "PoleBehind" "water" "LPoleBehind$River;" ∈ wsX7_cost := List.mem_of_getElem? (i := 1) rfl
theorem in_X7_cost_X7 : ∀ w ∈ wsX70, w ∈ wsX7_cost := fun _ h => List.mem_cons_of_mem _ (List.mem_append_left _ (List.mem_append_right _ h))
set_option maxHeartbeats 400000 in
set_option maxRecDepth 100000 in
theorem c_X7_cost {l : Launch} {D : va_G} {cI cJ cZ cR : ClassId} {q : Nat → Nat} {w d : Nat} {xi : Nat → Int} {xa : Nat → Nat → Int} (hq : qOk 31 q) {z : Int} (hO : XOk w d xi xa) (hz : -2147483648 ≤ z ∧ z < 2147483648) : Cti l D vwCl (tysC cI cJ cZ cR) 31 q yX7_cost wsX7_cost ({ frames := 6, cells := 0, slots := 0, locals := 145 } : Room) [.ref (q 0), .int (iI z)] (cX cI cJ cZ cR q w d xi xa) (fun (r : Int32) (g : Nat → va_E) => ∃ (e : Int) (xa' : Nat → Nat → Int), (spCost (vX w xi xa) z e ∧ vX w xi xa' = (vX w xi xa) ∧ XOk w d xi xa') ∧ r = iI e ∧ g = (cX cI cJ cZ cR q w d xi xa')) := by
  refine Cti.of (cc := cX7_cost) (nL := 4) (own := RX7) (ret := (some .int)) (by decide) rfl rfl hq (Nat.le_of_ble_eq_true rfl) (fun p e s m args below meth c => ?_)
  obtain ⟨⟨hw, hd⟩, hRows, hRvs, hn2, ⟨hRd, hRd2⟩, hJ, ⟨hst, hTab⟩, hfa, hsg⟩ := id hO
  have hRw := hRvs w hw
  obtain ⟨hN, hP, hK, hM, hD, hB⟩ := id hRw
  have hnA : rN (aR (vX w xi xa)) = xi (10 + w) := rfl
  have hO0 := XOk_fa (f := 0) hO (by omega)
  refine z_aload_n (j := 0) dX7_cost_0 rfl rfl ?_
  refine z_getf (i := 0) (ci := 7) (k := 1) (v := .ref (q (10 + w))) dX7_cost_1 m_X7_cost_f20 in_X7_cost_X7 rfl (by decide) rfl (by omega) rfl rfl ?_
  refine z_iload_n (j := 1) dX7_cost_4 rfl rfl ?_
  refine z_callVi (i := 10 + w) (ci := 2) (As := [.int (iI z)]) (rest := []) (c_X2_has  hq hw hRw (by omega)) dX7_cost_5 gX7_cost_X2_has rfl cd_X2_has ⟨Nat.le_of_ble_eq_true rfl, Nat.le_of_ble_eq_true rfl⟩ rfl rfl (by omega) (cX_rv hw) rfl rfl (Nat.le_of_ble_eq_true rfl) ⟨Nat.zero_le _, Nat.zero_le _⟩ (fun r_5 g_5 hp_5 => ?_)
  obtain ⟨⟨h_5, rfl⟩ | ⟨h_5, rfl⟩, rfl⟩ := hp_5
  · refine z_if_ne (tgt := 13) dX7_cost_8 (by decide) (by decide) (fun _ => ?_) (fun h => absurd h (by decide))
    refine z_aload_n (j := 0) dX7_cost_13 rfl rfl ?_
    refine z_getf (i := 0) (ci := 7) (k := 1) (v := .ref (q (10 + w))) dX7_cost_14 m_X7_cost_f20 in_X7_cost_X7 rfl (by decide) rfl (by omega) rfl rfl ?_
    refine z_iload_n (j := 1) dX7_cost_17 rfl rfl ?_
    refine z_callVi (i := 10 + w) (ci := 2) (As := [.int (iI z)]) (rest := []) (c_X2_isBridged  hq hw hRw (by omega)) dX7_cost_18 gX7_cost_X2_isBridged rfl cd_X2_isBridged ⟨Nat.le_of_ble_eq_true rfl, Nat.le_of_ble_eq_true rfl⟩ rfl rfl (by omega) (cX_rv hw) rfl rfl (Nat.le_of_ble_eq_true rfl) ⟨Nat.zero_le _, Nat.zero_le _⟩ (fun r_18 g_18 hp_18 => ?_)
    obtain ⟨⟨h_18, rfl⟩ | ⟨h_18, rfl⟩, rfl⟩ := hp_18
    · refine z_if_ne (tgt := 26) dX7_cost_21 (by decide) (by decide) (fun _ => ?_) (fun h => absurd h (by decide))
      refine z_aload_n (j := 0) dX7_cost_26 rfl rfl ?_
      refine z_getf (i := 0) (ci := 7) (k := 1) (v := .ref (q (10 + w))) dX7_cost_27 m_X7_cost_f20 in_X7_cost_X7 rfl (by decide) rfl (by omega) rfl rfl ?_
      refine z_callVi (i := 10 + w) (ci := 2) (As := []) (rest := []) (c_X2_fewestTurns  hq hw hRw (by omega)) dX7_cost_30 gX7_cost_X2_fewestTurns rfl cd_X2_fewestTurns ⟨Nat.le_of_ble_eq_true rfl, Nat.le_of_ble_eq_true rfl⟩ rfl rfl (by omega) (cX_rv hw) rfl rfl (Nat.le_of_ble_eq_true rfl) ⟨Nat.zero_le _, Nat.zero_le _⟩ (fun r_30 g_30 hp_30 => ?_)
      obtain ⟨⟨e_30, he_30, rfl⟩, rfl⟩ := hp_30
      have hs30 := soonX_rng he_30
      refine z_istore_n [(2, .int (iI e_30)), (0, .ref (q 0)), (1, .int (iI z))] dX7_cost_33 rfl (by decide) rfl ?_
      refine z_aload_n (j := 1) dX7_cost_34 rfl rfl ?_
      refine z_getf (i := 0) (ci := 7) (k := 1) (v := .ref (q (10 + w))) dX7_cost_35 m_X7_cost_f20 in_X7_cost_X7 rfl (by decide) rfl (by omega) rfl rfl ?_
      refine z_iload_n (j := 2) dX7_cost_38 rfl rfl ?_
      refine z_iconst dX7_cost_39 ?_
      refine z_callVv (i := 10 + w) (ci := 2) (As := [.int (iI z), .int (iI 0)]) (rest := []) (c_X2_setBridged  hq hw hRw (by omega) (by omega)) dX7_cost_40 gX7_cost_X2_setBridged rfl cd_X2_setBridged ⟨Nat.le_of_ble_eq_true rfl, Nat.le_of_ble_eq_true rfl⟩ rfl rfl (by omega) (cX_rv hw) rfl rfl (Nat.le_of_ble_eq_true rfl) ⟨Nat.zero_le _, Nat.zero_le _⟩ (fun g_40 hp_40 => ?_)
      obtain ⟨xa_40, he_40, rfl⟩ := hp_40
      rw [if_pos (by omega)] at he_40
      have hR40 : RvOk xi xa_40 w := by
        rw [he_40]
        exact ⟨hN, hP, by rw [up_n (by omega)]; exact hK, by rw [up_n (by omega)]; exact hM, by rw [up_n (by omega)]; exact hD, by rw [up_s]; exact up_bit hB (Or.inl rfl)⟩
      refine z_aload_n (j := 1) dX7_cost_43 rfl rfl ?_
      refine z_getf (i := 0) (ci := 7) (k := 1) (v := .ref (q (10 + w))) dX7_cost_44 m_X7_cost_f20 in_X7_cost_X7 rfl (by decide) rfl (by omega) rfl rfl ?_
      refine z_callVi (i := 10 + w) (ci := 2) (As := []) (rest := []) (c_X2_fewestTurns  hq hw hR40 (by omega)) dX7_cost_47 gX7_cost_X2_fewestTurns rfl cd_X2_fewestTurns ⟨Nat.le_of_ble_eq_true rfl, Nat.le_of_ble_eq_true rfl⟩ rfl rfl (by omega) (cX_rv hw) rfl rfl (Nat.le_of_ble_eq_true rfl) ⟨Nat.zero_le _, Nat.zero_le _⟩ (fun r_47 g_47 hp_47 => ?_)
      obtain ⟨⟨e_47, he_47, rfl⟩, rfl⟩ := hp_47
      have hs47 := soonX_rng he_47
      refine z_istore_n [(3, .int (iI e_47)), (2, .int (iI e_30)), (0, .ref (q 0)), (1, .int (iI z))] dX7_cost_50 rfl (by decide) rfl ?_
      refine z_aload_n (j := 2) dX7_cost_51 rfl rfl ?_
      refine z_getf (i := 0) (ci := 7) (k := 1) (v := .ref (q (10 + w))) dX7_cost_52 m_X7_cost_f20 in_X7_cost_X7 rfl (by decide) rfl (by omega) rfl rfl ?_
      refine z_iload_n (j := 3) dX7_cost_55 rfl rfl ?_
      refine z_iconst dX7_cost_56 ?_
      refine z_callVv (i := 10 + w) (ci := 2) (As := [.int (iI z), .int (iI 1)]) (rest := []) (c_X2_setBridged  hq hw hR40 (by omega) (by omega)) dX7_cost_57 gX7_cost_X2_setBridged rfl cd_X2_setBridged ⟨Nat.le_of_ble_eq_true rfl, Nat.le_of_ble_eq_true rfl⟩ rfl rfl (by omega) (cX_rv hw) rfl rfl (Nat.le_of_ble_eq_true rfl) ⟨Nat.zero_le _, Nat.zero_le _⟩ (fun g_57 hp_57 => ?_)
      obtain ⟨xa_57, he_57, rfl⟩ := hp_57
      rw [if_pos (by omega), he_40, brid_back h_18.2] at he_57
      refine z_iload_n (j := 1) dX7_cost_60 rfl rfl ?_
      refine z_bipush dX7_cost_61 (by decide) ?_
      refine z_icmp_eq (tgt := 72) dX7_cost_63 (by decide) (by omega) (by decide) (fun c_63 => ?_) (fun c_63 => ?_)
      · refine z_bipush dX7_cost_72 (by decide) ?_
        refine z_goto (tgt := 80) dX7_cost_74 (by decide) ?_
        exact z_iret dX7_cost_80 ⟨_, _, (by
      unfold spCost; rw [if_neg (by rw [hnA]; omega), if_neg (by rw [show rB (aR (vX w xi xa)) z.toNat = xa (10 + w) z.toNat from nrm_in (by omega)]; omega), he_57]
      rw [he_40, setB_x (by omega)] at he_47
      refine ⟨⟨e_30, e_47, he_30, he_47, ?_⟩, rfl, hO⟩
      first
        | rw [if_pos (by omega)]
        | rw [if_neg (by omega)]), rfl, rfl⟩
      · refine z_iload_n (j := 0) dX7_cost_66 rfl rfl ?_
        refine z_bipush dX7_cost_67 (by decide) ?_
        refine z_icmp_ne (tgt := 77) dX7_cost_69 (by decide) (by omega) (by decide) (fun c_69 => ?_) (fun c_69 => ?_)
        · refine z_iload_n (j := 1) dX7_cost_77 rfl rfl ?_
          refine z_iload_n (j := 0) dX7_cost_78 rfl rfl ?_
          refine z_isub dX7_cost_79 ?_
          exact z_iret dX7_cost_80 ⟨_, _, (by
      unfold spCost; rw [if_neg (by rw [hnA]; omega), if_neg (by rw [show rB (aR (vX w xi xa)) z.toNat = xa (10 + w) z.toNat from nrm_in (by omega)]; omega), he_57]
      rw [he_40, setB_x (by omega)] at he_47
      refine ⟨⟨e_30, e_47, he_30, he_47, ?_⟩, rfl, hO⟩
      first
        | rw [if_pos (by omega)]
        | rw [if_neg (by omega)]), rfl, rfl⟩
        · refine z_bipush dX7_cost_72 (by decide) ?_
          refine z_goto (tgt := 80) dX7_cost_74 (by decide) ?_
          exact z_iret dX7_cost_80 ⟨_, _, (by
      unfold spCost; rw [if_neg (by rw [hnA]; omega), if_neg (by rw [show rB (aR (vX w xi xa)) z.toNat = xa (10 + w) z.toNat from nrm_in (by omega)]; omega), he_57]
      rw [he_40, setB_x (by omega)] at he_47
      refine ⟨⟨e_30, e_47, he_30, he_47, ?_⟩, rfl, hO⟩
      first
        | rw [if_pos (by omega)]
        | rw [if_neg (by omega)]), rfl, rfl⟩
    · refine z_if_ne (tgt := 26) dX7_cost_21 (by decide) (by decide) (fun h => absurd h (by decide)) (fun _ => ?_)
      refine z_iconst dX7_cost_24 ?_
      exact z_iret dX7_cost_25 ⟨_, _, (by
      have hbz := hB z.toNat
      unfold spCost; rw [if_neg (by rw [hnA]; omega), if_pos (by rw [show rB (aR (vX w xi xa)) z.toNat = xa (10 + w) z.toNat from nrm_in (by omega)]; omega)]; exact ⟨rfl, rfl, hO⟩), rfl, rfl⟩
  · refine z_if_ne (tgt := 13) dX7_cost_8 (by decide) (by decide) (fun h => absurd h (by decide)) (fun _ => ?_)
    refine z_iconst dX7_cost_11 ?_
    exact z_iret dX7_cost_12 ⟨_, _, (by unfold spCost; rw [if_pos (by rw [hnA]; omega)]; exact ⟨rfl, rfl, hO⟩), rfl, rfl⟩
theorem m_X7_reading_f20 : Cond.fieldLink RX7 20 "PoleBehind" "water" "LPoleBehind$River;" ∈ wsX7_reading := List.mem_of_getElem? (i := 1) rfl
theorem in_X7_reading_X7 : ∀ w ∈ wsX70, w ∈ wsX7_reading := fun _ h => List.mem_cons_of_mem _ (List.mem_append_left _ (List.mem_append_left _ (List.mem_append_right _ h)))
theorem m_X7_reading_f44 : Cond.fieldLink RX7 44 "PoleBehind" "readings" "LPoleBehind$Readings;" ∈ wsX7_reading := List.mem_of_getElem? (i := 2) rfl
theorem in_X7_reading_X1 : ∀ w ∈ wsX10, w ∈ wsX7_reading := fun _ h => List.mem_cons_of_mem _ (List.mem_append_left _ (List.mem_append_right _ h))
theorem cd_X1_add : yX1_add.cls = RX1 ∧ yX1_add.cls ≠ "java/lang/invoke/MethodHandle" ∧ yX1_add.cls ≠ "java/lang/invoke/VarHandle" ∧ (parseMethodDescriptor yX1_add.desc).map (fun d => d.parameters.length) = some 2 := ⟨rfl, by decide +kernel, by decide +kernel, by decide +kernel⟩
set_option maxHeartbeats 400000 in
set_option maxRecDepth 100000 in
theorem c_X7_reading {l : Launch} {D : va_G} {cI cJ cZ cR : ClassId} {q : Nat → Nat} {w d : Nat} {xi : Nat → Int} {xa : Nat → Nat → Int} (hq : qOk 31 q) {tt cc : Int} (hO : XOk w d xi xa) (ht : -2147483648 ≤ tt ∧ tt < 2147483648) (hc : -2147483648 ≤ cc ∧ cc < 2147483648) : Cti l D vwCl (tysC cI cJ cZ cR) 31 q yX7_reading wsX7_reading ({ frames := 1, cells := 0, slots := 0, locals := 22 } : Room) [.ref (q 0), .int (iI tt), .int (iI cc)] (cX cI cJ cZ cR q w d xi xa) (fun (r : Int32) (g : Nat → va_E) => ∃ (e : Int) (xi' : Nat → Int) (xa' : Nat → Nat → Int), (spReading (vX w xi xa) tt cc e (vX w xi' xa') ∧ XOk w d xi' xa') ∧ r = iI e ∧ g = (cX cI cJ cZ cR q w d xi' xa')) := by
  refine Cti.of (cc := cX7_reading) (nL := 3) (own := RX7) (ret := (some .int)) (by decide) rfl rfl hq (Nat.le_of_ble_eq_true rfl) (fun p e s m args below meth c => ?_)
  obtain ⟨⟨hw, hd⟩, hRows, hRvs, hn2, ⟨hRd, hRd2⟩, hJ, ⟨hst, hTab⟩, hfa, hsg⟩ := id hO
  have hRw := hRvs w hw
  obtain ⟨hN, hP, hK, hM, hD, hB⟩ := id hRw
  have hnA : rN (aR (vX w xi xa)) = xi (10 + w) := rfl
  have hO0 := XOk_fa (f := 0) hO (by omega)
  obtain ⟨hr8, hrT, hrC⟩ := id hRd
  have hcA : aRc (vX w xi xa) = xi 18 := rfl
  refine z_aload_n (j := 0) dX7_reading_0 rfl rfl ?_
  refine z_getf (i := 0) (ci := 7) (k := 1) (v := .ref (q (10 + w))) dX7_reading_1 m_X7_reading_f20 in_X7_reading_X7 rfl (by decide) rfl (by omega) rfl rfl ?_
  refine z_iload_n (j := 2) dX7_reading_4 rfl rfl ?_
  refine z_callVi (i := 10 + w) (ci := 2) (As := [.int (iI cc)]) (rest := []) (c_X2_has  hq hw hRw (by omega)) dX7_reading_5 gX7_reading_X2_has rfl cd_X2_has ⟨Nat.le_of_ble_eq_true rfl, Nat.le_of_ble_eq_true rfl⟩ rfl rfl (by omega) (cX_rv hw) rfl rfl (Nat.le_of_ble_eq_true rfl) ⟨Nat.zero_le _, Nat.zero_le _⟩ (fun r_5 g_5 hp_5 => ?_)
  obtain ⟨⟨h_5, rfl⟩ | ⟨h_5, rfl⟩, rfl⟩ := hp_5
  · refine z_if_ne (tgt := 13) dX7_reading_8 (by decide) (by decide) (fun _ => ?_) (fun h => absurd h (by decide))
    refine z_iload_n (j := 1) dX7_reading_13 rfl rfl ?_
    refine z_iconst dX7_reading_14 ?_
    refine z_icmp_lt (tgt := 24) dX7_reading_15 (by decide) (by omega) (by decide) (fun c_15 => ?_) (fun c_15 => ?_)
    · refine z_bipush dX7_reading_24 (by decide) ?_
      exact z_iret dX7_reading_26 ⟨_, _, _, (by unfold spReading; rw [if_neg (by rw [hnA]; omega), if_pos (by omega)]; exact ⟨⟨rfl, rfl⟩, hO⟩), rfl, rfl⟩
    · refine z_iload_n (j := 1) dX7_reading_18 rfl rfl ?_
      refine z_bipush dX7_reading_19 (by decide) ?_
      refine z_icmp_le (tgt := 27) dX7_reading_21 (by decide) (by omega) (by decide) (fun c_21 => ?_) (fun c_21 => ?_)
      · refine z_aload_n (j := 0) dX7_reading_27 rfl rfl ?_
        refine z_getf (i := 0) (ci := 7) (k := 5) (v := .ref (q 24)) dX7_reading_28 m_X7_reading_f44 in_X7_reading_X7 rfl (by decide) rfl (by omega) rfl rfl ?_
        refine z_getfN (i := 24) (ci := 1) (k := 2) (v := .int (iI (xi 18))) dX7_reading_31 nwf_X7_132 in_X7_reading_X1 rfl (by decide) rfl (by omega) rfl rfl ?_
        refine z_bipush dX7_reading_34 (by decide) ?_
        refine z_icmp_lt (tgt := 42) dX7_reading_36 (by decide) (by omega) (by decide) (fun c_36 => ?_) (fun c_36 => ?_)
        · refine z_aload_n (j := 0) dX7_reading_42 rfl rfl ?_
          refine z_getf (i := 0) (ci := 7) (k := 5) (v := .ref (q 24)) dX7_reading_43 m_X7_reading_f44 in_X7_reading_X7 rfl (by decide) rfl (by omega) rfl rfl ?_
          refine z_iload_n (j := 1) dX7_reading_46 rfl rfl ?_
          refine z_iload_n (j := 2) dX7_reading_47 rfl rfl ?_
          refine z_callVv (i := 24) (ci := 1) (As := [.int (iI tt), .int (iI cc)]) (rest := []) (c_X1_add  hq (by omega)) dX7_reading_48 gX7_reading_X1_add rfl cd_X1_add ⟨Nat.le_of_ble_eq_true rfl, Nat.le_of_ble_eq_true rfl⟩ rfl rfl (by omega) rfl rfl rfl (Nat.le_of_ble_eq_true rfl) ⟨Nat.zero_le _, Nat.zero_le _⟩ (fun g_48 hp_48 => ?_)
          obtain ⟨xi_48, xa_48, he_48, rfl⟩ := hp_48
          refine z_aload_n (j := 0) dX7_reading_51 rfl rfl ?_
          refine z_getf (i := 0) (ci := 7) (k := 5) (v := .ref (q 24)) dX7_reading_52 m_X7_reading_f44 in_X7_reading_X7 rfl (by decide) rfl (by omega) rfl rfl ?_
          refine z_getfN (i := 24) (ci := 1) (k := 2) (v := .int (iI (xi_48 18))) dX7_reading_55 nwf_X7_132 in_X7_reading_X1 rfl (by decide) rfl (by omega) rfl rfl ?_
          refine z_iconst dX7_reading_58 ?_
          refine z_isub dX7_reading_59 ?_
          exact z_iret dX7_reading_60 ⟨_, _, _, (by
      obtain ⟨x1, x2⟩ := he_48
      rw [up_n (show (15 : Nat) ≠ 14 by decide)] at x2
      have e14 : xa_48 14 = va_up (xa 14) (xi 18).toNat tt := by rw [x2, up_n (by decide), up_s]
      have e15 : xa_48 15 = va_up (xa 15) (xi 18).toNat cc := by rw [x2, up_s]
      have eo : ∀ k, k ≠ 14 → k ≠ 15 → xa_48 k = xa k := fun k h1 h2 => by rw [x2, up_n h2, up_n h1]
      have ex : ∀ k, k ≠ 18 → xi_48 k = xi k := fun k h => by rw [x1, up_n h]
      have e18 : xi_48 18 = xi 18 + 1 := by rw [x1, up_s]
      unfold spReading; rw [if_neg (by rw [hnA]; omega), if_neg (by omega), if_neg (by rw [hcA]; omega)]
      refine ⟨⟨?_, vX_rd hw (fun k hk => ex k (by omega)) (fun k hk => eo k (by omega) (by omega)) e18 ?_ ?_⟩, XOk_rd hO ex eo ⟨by omega, ?_, ?_⟩ (fun k hk => ?_)⟩
      · rw [hcA]; omega
      · rw [e14]; exact nrm_add (by omega)
      · rw [e15]; exact nrm_add (by omega)
      · rw [e14]
        intro k
        by_cases hk : k = (xi 18).toNat
        · rw [hk, up_s]; omega
        · rw [up_n hk]; exact hrT k
      · rw [e15]
        intro k
        by_cases hk : k = (xi 18).toNat
        · rw [hk, up_s]; omega
        · rw [up_n hk]; exact hrC k
      · rw [e14]
        by_cases hq : k = (xi 18).toNat
        · rw [hq, up_s]; omega
        · rw [up_n hq]; exact hRd2 k (by omega)), rfl, rfl⟩
        · refine z_bipush dX7_reading_39 (by decide) ?_
          exact z_iret dX7_reading_41 ⟨_, _, _, (by unfold spReading; rw [if_neg (by rw [hnA]; omega), if_neg (by omega), if_pos (by rw [hcA]; omega)]; exact ⟨⟨rfl, rfl⟩, hO⟩), rfl, rfl⟩
      · refine z_bipush dX7_reading_24 (by decide) ?_
        exact z_iret dX7_reading_26 ⟨_, _, _, (by unfold spReading; rw [if_neg (by rw [hnA]; omega), if_pos (by omega)]; exact ⟨⟨rfl, rfl⟩, hO⟩), rfl, rfl⟩
  · refine z_if_ne (tgt := 13) dX7_reading_8 (by decide) (by decide) (fun h => absurd h (by decide)) (fun _ => ?_)
    refine z_iconst dX7_reading_11 ?_
    exact z_iret dX7_reading_12 ⟨_, _, _, (by unfold spReading; rw [if_pos (by rw [hnA]; omega)]; exact ⟨⟨rfl, rfl⟩, hO⟩), rfl, rfl⟩
theorem m_X7_back_f44 : Cond.fieldLink RX7 44 "PoleBehind" "readings" "LPoleBehind$Readings;" ∈ wsX7_back := List.mem_of_getElem? (i := 1) rfl
theorem in_X7_back_X7 : ∀ w ∈ wsX70, w ∈ wsX7_back := fun _ h => List.mem_cons_of_mem _ (List.mem_append_left _ (List.mem_append_right _ h))
theorem in_X7_back_X1 : ∀ w ∈ wsX10, w ∈ wsX7_back := fun _ h => List.mem_cons_of_mem _ (List.mem_append_right _ h)
set_option maxHeartbeats 400000 in
set_option maxRecDepth 100000 in
theorem c_X7_back {l : Launch} {D : va_G} {cI cJ cZ cR : ClassId} {q : Nat → Nat} {w d : Nat} {xi : Nat → Int} {xa : Nat → Nat → Int} (hq : qOk 31 q) {kk : Int} (hO : XOk w d xi xa) (hk : -2147483648 ≤ kk ∧ kk < 2147483648) : Cti l D vwCl (tysC cI cJ cZ cR) 31 q yX7_back wsX7_back ({ frames := 0, cells := 0, slots := 0, locals := 0 } : Room) [.ref (q 0), .int (iI kk)] (cX cI cJ cZ cR q w d xi xa) (fun (r : Int32) (g : Nat → va_E) => ∃ (e : Int) (xi' : Nat → Int), (spBack (vX w xi xa) kk e (vX w xi' xa) ∧ XOk w d xi' xa) ∧ r = iI e ∧ g = (cX cI cJ cZ cR q w d xi' xa)) := by
  refine Cti.of (cc := cX7_back) (nL := 2) (own := RX7) (ret := (some .int)) (by decide) rfl rfl hq (Nat.le_of_ble_eq_true rfl) (fun p e s m args below meth c => ?_)
  obtain ⟨⟨hw, hd⟩, hRows, hRvs, hn2, ⟨hRd, hRd2⟩, hJ, ⟨hst, hTab⟩, hfa, hsg⟩ := id hO
  have hRw := hRvs w hw
  obtain ⟨hN, hP, hK, hM, hD, hB⟩ := id hRw
  have hnA : rN (aR (vX w xi xa)) = xi (10 + w) := rfl
  have hO0 := XOk_fa (f := 0) hO (by omega)
  obtain ⟨hr8, hrT, hrC⟩ := id hRd
  have hcA : aRc (vX w xi xa) = xi 18 := rfl
  refine z_iload_n (j := 1) dX7_back_0 rfl rfl ?_
  refine z_if_lt (tgt := 15) dX7_back_1 (by decide) (by omega) (fun c_1 => ?_) (fun c_1 => ?_)
  · refine z_bipush dX7_back_15 (by decide) ?_
    exact z_iret dX7_back_17 ⟨_, _, (by unfold spBack; rw [if_pos (by rw [hcA]; omega)]; exact ⟨⟨rfl, rfl⟩, hO⟩), rfl, rfl⟩
  · refine z_iload_n (j := 1) dX7_back_4 rfl rfl ?_
    refine z_aload_n (j := 0) dX7_back_5 rfl rfl ?_
    refine z_getf (i := 0) (ci := 7) (k := 5) (v := .ref (q 24)) dX7_back_6 m_X7_back_f44 in_X7_back_X7 rfl (by decide) rfl (by omega) rfl rfl ?_
    refine z_getfN (i := 24) (ci := 1) (k := 2) (v := .int (iI (xi 18))) dX7_back_9 nwf_X7_132 in_X7_back_X1 rfl (by decide) rfl (by omega) rfl rfl ?_
    refine z_icmp_le (tgt := 18) dX7_back_12 (by decide) (by omega) (by omega) (fun c_12 => ?_) (fun c_12 => ?_)
    · refine z_aload_n (j := 0) dX7_back_18 rfl rfl ?_
      refine z_getf (i := 0) (ci := 7) (k := 5) (v := .ref (q 24)) dX7_back_19 m_X7_back_f44 in_X7_back_X7 rfl (by decide) rfl (by omega) rfl rfl ?_
      refine z_dup dX7_back_22 rfl ?_
      refine z_getfN (i := 24) (ci := 1) (k := 2) (v := .int (iI (xi 18))) dX7_back_23 nwf_X7_132 in_X7_back_X1 rfl (by decide) rfl (by omega) rfl rfl ?_
      refine z_iload_n (j := 1) dX7_back_26 rfl rfl ?_
      refine z_isub dX7_back_27 ?_
      refine z_putfN (i := 24) (ci := 1) (k := 2) (cX cI cJ cZ cR q w d (va_up xi 18 ((xi 18) - kk)) xa) dX7_back_28 nwf_X7_132 in_X7_back_X1 rfl (by decide) rfl (by omega) rfl tyX1_ok nmX1 rfl rfl rfl (Nat.le_of_ble_eq_true rfl) lx_rcount ?_
      refine z_aload_n (j := 0) dX7_back_31 rfl rfl ?_
      refine z_getf (i := 0) (ci := 7) (k := 5) (v := .ref (q 24)) dX7_back_32 m_X7_back_f44 in_X7_back_X7 rfl (by decide) rfl (by omega) rfl rfl ?_
      refine z_getfN (i := 24) (ci := 1) (k := 2) (v := .int (iI ((xi 18) - kk))) dX7_back_35 nwf_X7_132 in_X7_back_X1 rfl (by decide) rfl (by omega) rfl rfl ?_
      exact z_iret dX7_back_38 ⟨_, _, (by
      unfold spBack; rw [if_neg (by rw [hcA]; omega)]
      refine ⟨⟨rfl, vX_rd hw (fun k hk => up_n (by omega)) (fun _ _ => rfl) up_s ?_ ?_⟩, XOk_rd hO (fun k hk => up_n hk) (fun _ _ _ => rfl) ⟨by rw [up_s]; omega, hrT, hrC⟩ (fun k hk => hRd2 k (by rw [up_s] at hk; omega))⟩
      · exact (nrm_nrm (by rw [hcA]; omega)).symm
      · exact (nrm_nrm (by rw [hcA]; omega)).symm), rfl, rfl⟩
    · refine z_bipush dX7_back_15 (by decide) ?_
      exact z_iret dX7_back_17 ⟨_, _, (by unfold spBack; rw [if_pos (by rw [hcA]; omega)]; exact ⟨⟨rfl, rfl⟩, hO⟩), rfl, rfl⟩
theorem m_X7_ways_f20 : Cond.fieldLink RX7 20 "PoleBehind" "water" "LPoleBehind$River;" ∈ wsX7_ways := List.mem_of_getElem? (i := 1) rfl
theorem in_X7_ways_X7 : ∀ w ∈ wsX70, w ∈ wsX7_ways := fun _ h => List.mem_cons_of_mem _ (List.mem_append_left _ (List.mem_append_left _ (List.mem_append_left _ (List.mem_append_right _ h))))
theorem m_X7_ways_f58 : Cond.fieldLink RX7 58 "PoleBehind" "wayTable" "LPoleBehind$WayTable;" ∈ wsX7_ways := List.mem_of_getElem? (i := 2) rfl
theorem m_X7_ways_f44 : Cond.fieldLink RX7 44 "PoleBehind" "readings" "LPoleBehind$Readings;" ∈ wsX7_ways := List.mem_of_getElem? (i := 3) rfl
theorem cd_X6_fill : yX6_fill.cls = RX6 ∧ yX6_fill.cls ≠ "java/lang/invoke/MethodHandle" ∧ yX6_fill.cls ≠ "java/lang/invoke/VarHandle" ∧ (parseMethodDescriptor yX6_fill.desc).map (fun d => d.parameters.length) = some 3 := ⟨rfl, by decide +kernel, by decide +kernel, by decide +kernel⟩
theorem cd_X6_actOf : yX6_actOf.cls = RX6 ∧ yX6_actOf.cls ≠ "java/lang/invoke/MethodHandle" ∧ yX6_actOf.cls ≠ "java/lang/invoke/VarHandle" ∧ (parseMethodDescriptor yX6_actOf.desc).map (fun d => d.parameters.length) = some 3 := ⟨rfl, by decide +kernel, by decide +kernel, by decide +kernel⟩
set_option maxHeartbeats 400000 in
set_option maxRecDepth 100000 in
theorem c_X7_ways {l : Launch} {D : va_G} {cI cJ cZ cR : ClassId} {q : Nat → Nat} {w d : Nat} {xi : Nat → Int} {xa : Nat → Nat → Int} (hq : qOk 31 q) {nn qq : Int} (hO : XOk w d xi xa) (hnn : -2147483648 ≤ nn ∧ nn < 2147483648) (hqq : -2147483648 ≤ qq ∧ qq < 2147483648) : Cti l D vwCl (tysC cI cJ cZ cR) 31 q yX7_ways wsX7_ways ({ frames := 5, cells := 0, slots := 0, locals := 120 } : Room) [.ref (q 0), .int (iI nn), .int (iI qq)] (cX cI cJ cZ cR q w d xi xa) (fun (r : Int32) (g : Nat → va_E) => ∃ (e : Int) (xa' : Nat → Nat → Int), (spWays (vX w xi xa) nn qq e ∧ vX w xi xa' = (vX w xi xa) ∧ XOk w d xi xa') ∧ r = iI e ∧ g = (cX cI cJ cZ cR q w d xi xa')) := by
  refine Cti.of (cc := cX7_ways) (nL := 4) (own := RX7) (ret := (some .int)) (by decide) rfl rfl hq (Nat.le_of_ble_eq_true rfl) (fun p e s m args below meth c => ?_)
  obtain ⟨⟨hw, hd⟩, hRows, hRvs, hn2, ⟨hRd, hRd2⟩, hJ, ⟨hst, hTab⟩, hfa, hsg⟩ := id hO
  have hRw := hRvs w hw
  obtain ⟨hN, hP, hK, hM, hD, hB⟩ := id hRw
  have hnA : rN (aR (vX w xi xa)) = xi (10 + w) := rfl
  have hO0 := XOk_fa (f := 0) hO (by omega)
  refine z_iload_n (j := 1) dX7_ways_0 rfl rfl ?_
  refine z_if_lt (tgt := 21) dX7_ways_1 (by decide) (by omega) (fun c_1 => ?_) (fun c_1 => ?_)
  · refine z_bipush dX7_ways_21 (by decide) ?_
    exact z_iret dX7_ways_23 ⟨_, _, (by unfold spWays; rw [if_pos (by omega)]; exact ⟨rfl, rfl, hO⟩), rfl, rfl⟩
  · refine z_iload_n (j := 1) dX7_ways_4 rfl rfl ?_
    refine z_bipush dX7_ways_5 (by decide) ?_
    refine z_icmp_gt (tgt := 21) dX7_ways_7 (by decide) (by omega) (by decide) (fun c_7 => ?_) (fun c_7 => ?_)
    · refine z_bipush dX7_ways_21 (by decide) ?_
      exact z_iret dX7_ways_23 ⟨_, _, (by unfold spWays; rw [if_pos (by omega)]; exact ⟨rfl, rfl, hO⟩), rfl, rfl⟩
    · refine z_iload_n (j := 2) dX7_ways_10 rfl rfl ?_
      refine z_iconst dX7_ways_11 ?_
      refine z_icmp_lt (tgt := 21) dX7_ways_12 (by decide) (by omega) (by decide) (fun c_12 => ?_) (fun c_12 => ?_)
      · refine z_bipush dX7_ways_21 (by decide) ?_
        exact z_iret dX7_ways_23 ⟨_, _, (by unfold spWays; rw [if_pos (by omega)]; exact ⟨rfl, rfl, hO⟩), rfl, rfl⟩
      · refine z_iload_n (j := 2) dX7_ways_15 rfl rfl ?_
        refine z_bipush dX7_ways_16 (by decide) ?_
        refine z_icmp_lt (tgt := 24) dX7_ways_18 (by decide) (by omega) (by decide) (fun c_18 => ?_) (fun c_18 => ?_)
        · refine z_aload_n (j := 0) dX7_ways_24 rfl rfl ?_
          refine z_getf (i := 0) (ci := 7) (k := 1) (v := .ref (q (10 + w))) dX7_ways_25 m_X7_ways_f20 in_X7_ways_X7 rfl (by decide) rfl (by omega) rfl rfl ?_
          refine z_callVi (i := 10 + w) (ci := 2) (As := []) (rest := []) (c_X2_isNone  hq hw hRw) dX7_ways_28 gX7_ways_X2_isNone rfl cd_X2_isNone ⟨Nat.le_of_ble_eq_true rfl, Nat.le_of_ble_eq_true rfl⟩ rfl rfl (by omega) (cX_rv hw) rfl rfl (Nat.le_of_ble_eq_true rfl) ⟨Nat.zero_le _, Nat.zero_le _⟩ (fun r_28 g_28 hp_28 => ?_)
          obtain ⟨⟨h_28, rfl⟩ | ⟨h_28, rfl⟩, rfl⟩ := hp_28
          · refine z_if_eq (tgt := 37) dX7_ways_31 (by decide) (by decide) (fun h => absurd h (by decide)) (fun _ => ?_)
            refine z_bipush dX7_ways_34 (by decide) ?_
            exact z_iret dX7_ways_36 ⟨_, _, (by unfold spWays; rw [if_neg (by omega), if_pos (show rN (aR (vX w xi xa)) = 0 from h_28)]; exact ⟨rfl, rfl, hO⟩), rfl, rfl⟩
          · refine z_if_eq (tgt := 37) dX7_ways_31 (by decide) (by decide) (fun _ => ?_) (fun h => absurd h (by decide))
            refine z_aload_n (j := 0) dX7_ways_37 rfl rfl ?_
            refine z_getf (i := 0) (ci := 7) (k := 7) (v := .ref (q 29)) dX7_ways_38 m_X7_ways_f58 in_X7_ways_X7 rfl (by decide) rfl (by omega) rfl rfl ?_
            refine z_aload_n (j := 0) dX7_ways_41 rfl rfl ?_
            refine z_getf (i := 0) (ci := 7) (k := 1) (v := .ref (q (10 + w))) dX7_ways_42 m_X7_ways_f20 in_X7_ways_X7 rfl (by decide) rfl (by omega) rfl rfl ?_
            refine z_aload_n (j := 0) dX7_ways_45 rfl rfl ?_
            refine z_getf (i := 0) (ci := 7) (k := 5) (v := .ref (q 24)) dX7_ways_46 m_X7_ways_f44 in_X7_ways_X7 rfl (by decide) rfl (by omega) rfl rfl ?_
            refine z_iload_n (j := 1) dX7_ways_49 rfl rfl ?_
            refine z_callVv (i := 29) (ci := 6) (As := [.ref (q (10 + w)), .ref (q 24), .int (iI nn)]) (rest := []) (c_X6_fill  hq hw hRw (by omega) (by omega) hRd) dX7_ways_50 gX7_ways_X6_fill rfl cd_X6_fill ⟨Nat.le_of_ble_eq_true rfl, Nat.le_of_ble_eq_true rfl⟩ rfl rfl (by omega) rfl rfl rfl (Nat.le_of_ble_eq_true rfl) ⟨Nat.zero_le _, Nat.zero_le _⟩ (fun g_50 hp_50 => ?_)
            obtain ⟨xa_50, he_50, rfl⟩ := hp_50
            obtain ⟨hW50, ha50⟩ := he_50
            have hRt := RvOk_eq (yi := xi) (xi := xi) rfl rfl (ha50 (4 + w) (by omega)) (ha50 (6 + w) (by omega)) (ha50 (8 + w) (by omega)) (ha50 (10 + w) (by omega)) hRw
            have hRe : rvX xi xa_50 w = rvX xi xa w := rvX_eq rfl (ha50 (4 + w) (by omega)) (ha50 (6 + w) (by omega)) (ha50 (8 + w) (by omega)) (ha50 (10 + w) (by omega))
            have hvT : vX w xi xa_50 = vX w xi xa ∧ XOk w d xi xa_50 := ⟨vX_same hw rfl rfl (fun _ _ => rfl) (fun k hk => ha50 k (by omega)), XOk_wy hO ha50⟩
            refine z_aload_n (j := 0) dX7_ways_53 rfl rfl ?_
            refine z_getf (i := 0) (ci := 7) (k := 7) (v := .ref (q 29)) dX7_ways_54 m_X7_ways_f58 in_X7_ways_X7 rfl (by decide) rfl (by omega) rfl rfl ?_
            refine z_iconst dX7_ways_57 ?_
            refine z_aload_n (j := 0) dX7_ways_58 rfl rfl ?_
            refine z_getf (i := 0) (ci := 7) (k := 1) (v := .ref (q (10 + w))) dX7_ways_59 m_X7_ways_f20 in_X7_ways_X7 rfl (by decide) rfl (by omega) rfl rfl ?_
            refine z_callVi (i := 10 + w) (ci := 2) (As := []) (rest := [.int (iI 0), .ref (q 29)]) (c_X2_start  hq hw hRt) dX7_ways_62 gX7_ways_X2_start rfl cd_X2_start ⟨Nat.le_of_ble_eq_true rfl, Nat.le_of_ble_eq_true rfl⟩ rfl rfl (by omega) (cX_rv hw) rfl rfl (Nat.le_of_ble_eq_true rfl) ⟨Nat.zero_le _, Nat.zero_le _⟩ (fun r_62 g_62 hp_62 => ?_)
            obtain ⟨⟨_, rfl, rfl⟩, rfl⟩ := hp_62
            refine z_callVi (i := 29) (ci := 6) (As := [.int (iI 0), .int (iI (xi (12 + w)))]) (rest := []) (c_X6_waysFrom  hq (by omega) (by omega)) dX7_ways_65 gX7_ways_X6_waysFrom rfl cd_X6_waysFrom ⟨Nat.le_of_ble_eq_true rfl, Nat.le_of_ble_eq_true rfl⟩ rfl rfl (by omega) rfl rfl rfl (Nat.le_of_ble_eq_true rfl) ⟨Nat.zero_le _, Nat.zero_le _⟩ (fun r_65 g_65 hp_65 => ?_)
            obtain ⟨⟨e_65, he_65, rfl⟩, rfl⟩ := hp_65
            have h65 : e_65 = wayF (aR (vX w xi xa)) (alA (vX w xi xa)) nn.toNat nn.toNat (aP (vX w xi xa)) := by
              rw [he_65, if_pos ⟨by omega, by omega, by omega, by omega⟩, alA_x]
              have g1 := hW50 0 (xi (12 + w)).toNat (by omega) (by omega) (by rw [show rN (rvX xi xa w) = xi (10 + w) from rfl]; omega)
              rw [show 64 * 0 + (xi (12 + w)).toNat = (0 * 64 + xi (12 + w)).toNat by omega, show (((xi (12 + w)).toNat : Nat) : Int) = xi (12 + w) by omega] at g1
              exact g1
            have hwr := wayF_rng (R := aR (vX w xi xa)) (al := alA (vX w xi xa)) (n := nn.toNat) (show xi (10 + w) ≤ 16 by omega) nn.toNat (aP (vX w xi xa)) (show 0 ≤ xi (12 + w) by omega)
            rw [← h65] at hwr
            have hw4 : (4 : Int) ^ nn.toNat ≤ 4 ^ 7 := pow4_leN (by omega)
            have hw5 : (4 : Int) ^ 7 = 16384 := by decide
            refine z_istore_n [(3, .int (iI e_65)), (0, .ref (q 0)), (1, .int (iI nn)), (2, .int (iI qq))] dX7_ways_68 rfl (by decide) rfl ?_
            refine z_iload_n (j := 3) dX7_ways_69 rfl rfl ?_
            refine z_iconst dX7_ways_70 ?_
            refine z_icmp_ne (tgt := 76) dX7_ways_71 (by decide) (by omega) (by decide) (fun c_71 => ?_) (fun c_71 => ?_)
            · refine z_iload_n (j := 0) dX7_ways_76 rfl rfl ?_
              refine z_if_ne (tgt := 85) dX7_ways_77 (by decide) (by omega) (fun c_77 => ?_) (fun c_77 => ?_)
              · refine z_aload_n (j := 1) dX7_ways_85 rfl rfl ?_
                refine z_getf (i := 0) (ci := 7) (k := 7) (v := .ref (q 29)) dX7_ways_86 m_X7_ways_f58 in_X7_ways_X7 rfl (by decide) rfl (by omega) rfl rfl ?_
                refine z_aload_n (j := 1) dX7_ways_89 rfl rfl ?_
                refine z_getf (i := 0) (ci := 7) (k := 1) (v := .ref (q (10 + w))) dX7_ways_90 m_X7_ways_f20 in_X7_ways_X7 rfl (by decide) rfl (by omega) rfl rfl ?_
                refine z_iload_n (j := 2) dX7_ways_93 rfl rfl ?_
                refine z_iload_n (j := 3) dX7_ways_94 rfl rfl ?_
                refine z_callVi (i := 29) (ci := 6) (As := [.ref (q (10 + w)), .int (iI nn), .int (iI qq)]) (rest := []) (c_X6_actOf (al := alX xi xa) hq hw hRt (by omega) (by omega) (by omega) (by rw [hRe]; exact hW50) (by rw [hRe, ← alA_x (w := w)]; show 0 < wayF (aR (vX w xi xa)) (alA (vX w xi xa)) nn.toNat nn.toNat (aP (vX w xi xa)); omega)) dX7_ways_95 gX7_ways_X6_actOf rfl cd_X6_actOf ⟨Nat.le_of_ble_eq_true rfl, Nat.le_of_ble_eq_true rfl⟩ rfl rfl (by omega) rfl rfl rfl (Nat.le_of_ble_eq_true rfl) ⟨Nat.zero_le _, Nat.zero_le _⟩ (fun r_95 g_95 hp_95 => ?_)
                obtain ⟨⟨e_95, he_95, rfl⟩, rfl⟩ := hp_95
                rw [hRe, ← alA_x (w := w)] at he_95
                exact z_iret dX7_ways_98 ⟨_, _, (by
      unfold spWays; rw [if_neg (by omega), if_neg (show ¬ rN (aR (vX w xi xa)) = 0 from h_28), if_neg (by omega)]
      first
        | (rw [if_pos (by omega)]; exact ⟨rfl, hvT⟩)
        | (rw [if_neg (by omega)]; exact ⟨he_95, hvT⟩)), rfl, rfl⟩
              · refine z_bipush dX7_ways_80 (by decide) ?_
                refine z_goto (tgt := 98) dX7_ways_82 (by decide) ?_
                exact z_iret dX7_ways_98 ⟨_, _, (by
      unfold spWays; rw [if_neg (by omega), if_neg (show ¬ rN (aR (vX w xi xa)) = 0 from h_28), if_neg (by omega)]
      first
        | (rw [if_pos (by omega)]; exact ⟨rfl, hvT⟩)
        | (rw [if_neg (by omega)]; exact ⟨he_95, hvT⟩)), rfl, rfl⟩
            · refine z_iload_n (j := 0) dX7_ways_74 rfl rfl ?_
              exact z_iret dX7_ways_75 ⟨_, _, (by unfold spWays; rw [if_neg (by omega), if_neg (show ¬ rN (aR (vX w xi xa)) = 0 from h_28), if_pos (by omega)]; exact ⟨h65, hvT⟩), rfl, rfl⟩
        · refine z_bipush dX7_ways_21 (by decide) ?_
          exact z_iret dX7_ways_23 ⟨_, _, (by unfold spWays; rw [if_pos (by omega)]; exact ⟨rfl, rfl, hO⟩), rfl, rfl⟩
theorem m_X7_sheet_f63 : Cond.fieldLink RX7 63 "PoleBehind" "lastFault" "I" ∈ wsX7_sheet := List.mem_of_getElem? (i := 1) rfl
theorem in_X7_sheet_X7 : ∀ w ∈ wsX70, w ∈ wsX7_sheet := fun _ h => List.mem_cons_of_mem _ (List.mem_append_left _ (List.mem_append_right _ h))
theorem cd_X3_begin : yX3_begin.cls = RX3 ∧ yX3_begin.cls ≠ "java/lang/invoke/MethodHandle" ∧ yX3_begin.cls ≠ "java/lang/invoke/VarHandle" ∧ (parseMethodDescriptor yX3_begin.desc).map (fun d => d.parameters.length) = some 2 := ⟨rfl, by decide +kernel, by decide +kernel, by decide +kernel⟩
set_option maxHeartbeats 400000 in
set_option maxRecDepth 100000 in
theorem c_X7_sheet {l : Launch} {D : va_G} {cI cJ cZ cR : ClassId} {q : Nat → Nat} {w d : Nat} {xi : Nat → Int} {xa : Nat → Nat → Int} (hq : qOk 31 q) {z ln nn : Int} (hO : XOk w d xi xa) (hz : -2147483648 ≤ z ∧ z < 2147483648) (hl : -2147483648 ≤ ln ∧ ln < 2147483648) (hnn : -2147483648 ≤ nn ∧ nn < 2147483648) : Cti l D vwCl (tysC cI cJ cZ cR) 31 q yX7_sheet wsX7_sheet ({ frames := 2, cells := 0, slots := 0, locals := 45 } : Room) [.ref (q 0), .int (iI z), .int (iI ln), .int (iI nn)] (cX cI cJ cZ cR q w d xi xa) (fun (r : Int32) (g : Nat → va_E) => ∃ (e : Int) (xi' : Nat → Int) (xa' : Nat → Nat → Int), (spSheet (vX w xi xa) z ln nn e (vX w xi' xa') ∧ XOk w d xi' xa') ∧ r = iI e ∧ g = (cX cI cJ cZ cR q w d xi' xa')) := by
  refine Cti.of (cc := cX7_sheet) (nL := 5) (own := RX7) (ret := (some .int)) (by decide) rfl rfl hq (Nat.le_of_ble_eq_true rfl) (fun p e s m args below meth c => ?_)
  obtain ⟨⟨hw, hd⟩, hRows, hRvs, hn2, ⟨hRd, hRd2⟩, hJ, ⟨hst, hTab⟩, hfa, hsg⟩ := id hO
  have hRw := hRvs w hw
  obtain ⟨hN, hP, hK, hM, hD, hB⟩ := id hRw
  have hnA : rN (aR (vX w xi xa)) = xi (10 + w) := rfl
  have hO0 := XOk_fa (f := 0) hO (by omega)
  have hu : ∀ k, k ≠ 1 → va_up xi 1 0 k = xi k := fun k h => up_n h
  have hu1 : ∀ v : Int, va_up (va_up xi 1 0) 1 v = va_up xi 1 v := fun v => bx_uu _ _ _ _
  have hRows0 := hO0.2.1
  refine z_aload_n (j := 0) dX7_sheet_0 rfl rfl ?_
  refine z_iconst dX7_sheet_1 ?_
  refine z_putf (i := 0) (ci := 7) (k := 9) (cX cI cJ cZ cR q w d (va_up xi 1 0) xa) dX7_sheet_2 m_X7_sheet_f63 in_X7_sheet_X7 rfl (by decide) rfl (by omega) rfl tyX7_ok nmX7 rfl rfl rfl (Nat.le_of_ble_eq_true rfl) lx_fault ?_
  refine z_aload_n (j := 0) dX7_sheet_5 rfl rfl ?_
  refine z_iload_n (j := 1) dX7_sheet_6 rfl rfl ?_
  refine z_callVq (i := 0) (ci := 7) (As := [.int (iI z)]) (rest := []) (c_X7_rowOf  hq (by omega)) dX7_sheet_7 gX7_sheet_X7_rowOf rfl cd_X7_rowOf ⟨Nat.le_of_ble_eq_true rfl, Nat.le_of_ble_eq_true rfl⟩ rfl rfl (by omega) rfl rfl rfl (Nat.le_of_ble_eq_true rfl) ⟨Nat.zero_le _, Nat.zero_le _⟩ (fun r_7 g_7 hp_7 => ?_)
  obtain ⟨rfl, rfl⟩ := hp_7
  by_cases k_7 : 0 ≤ z ∧ z < 4
  · rw [if_pos k_7]
    refine z_asref ?_
    refine z_astore [(4, .ref (q (2 + z.toNat))), (0, .ref (q 0)), (1, .int (iI z)), (2, .int (iI ln)), (3, .int (iI nn))] dX7_sheet_10 (by decide) rfl ?_
    refine z_aload (j := 0) dX7_sheet_12 rfl ?_
    refine z_ifnonnull (tgt := 19) dX7_sheet_14 (by decide) ?_
    refine z_iload_n (j := 3) dX7_sheet_19 rfl rfl ?_
    refine z_callSi (As := [.int (iI ln)]) (rest := []) (c_X7_isLane  hq (by omega)) dX7_sheet_20 gX7_sheet_X7_isLane rfl cd_X7_isLane ⟨Nat.le_of_ble_eq_true rfl, Nat.le_of_ble_eq_true rfl⟩ rfl rfl rfl (Nat.le_of_ble_eq_true rfl) ⟨Nat.zero_le _, Nat.zero_le _⟩ (fun r_20 g_20 hp_20 => ?_)
    obtain ⟨⟨h_20, rfl⟩ | ⟨h_20, rfl⟩, rfl⟩ := hp_20
    · refine z_if_eq (tgt := 32) dX7_sheet_23 (by decide) (by decide) (fun h => absurd h (by decide)) (fun _ => ?_)
      refine z_iload_n (j := 4) dX7_sheet_26 rfl rfl ?_
      refine z_bipush dX7_sheet_27 (by decide) ?_
      refine z_icmp_le (tgt := 35) dX7_sheet_29 (by decide) (by omega) (by decide) (fun c_29 => ?_) (fun c_29 => ?_)
      · refine z_iload_n (j := 4) dX7_sheet_35 rfl rfl ?_
        refine z_if_ge (tgt := 45) dX7_sheet_36 (by decide) (by omega) (fun c_36 => ?_) (fun c_36 => ?_)
        · refine z_aload (j := 0) dX7_sheet_45 rfl ?_
          refine z_iload_n (j := 3) dX7_sheet_47 rfl rfl ?_
          refine z_iload_n (j := 4) dX7_sheet_48 rfl rfl ?_
          refine z_callVv (i := 2 + z.toNat) (ci := 3) (As := [.int (iI ln), .int (iI nn)]) (rest := []) (c_X3_begin  hq (show z.toNat < 4 by omega) (hRows0 _ (by omega)).1 (by omega) (by omega)) dX7_sheet_49 gX7_sheet_X3_begin rfl cd_X3_begin ⟨Nat.le_of_ble_eq_true rfl, Nat.le_of_ble_eq_true rfl⟩ rfl rfl (by omega) (cX_row (by omega)) rfl rfl (Nat.le_of_ble_eq_true rfl) ⟨Nat.zero_le _, Nat.zero_le _⟩ (fun g_49 hp_49 => ?_)
          obtain ⟨xi_49, xa_49, he_49, rfl⟩ := hp_49
          obtain ⟨G, hG, hG2, hxB, haB⟩ := he_49
          refine z_iconst dX7_sheet_52 ?_
          exact z_iret dX7_sheet_53 ⟨_, _, _, (by
      have hOO := hO0
      unfold spSheet; rw [if_neg (by omega), if_neg (by omega), if_neg (by omega)]
      have hrow := (hRows0 z.toNat (by omega)).1
      refine ⟨⟨rfl, ?_⟩, XOk_sh hOO (j := z.toNat) (by omega) (fun k h1 h2 h3 => by rw [hxB, up_n h3, up_n h2]) (fun k hk => by rw [haB, up_n hk]) ⟨⟨?_, ?_, ?_⟩, ?_⟩ ?_⟩
      · rw [vX_sh (xi := xi) (xa := xa) (j := z.toNat) (l := ln) (n := nn) (g := fun _ => 0) hw (by omega) (fun k h1 h2 h3 => by rw [hxB, up_n h3, up_n h2, up_n h1]) (fun k hk => by rw [haB, up_n hk]) (by rw [hxB, up_n (by omega), up_s]) (by rw [hxB, up_s]; omega) (nrm_all0 (fun k hk => by rw [haB, up_s]; exact hG k (by omega)))]
        rw [hxB, up_n (by omega), up_n (by omega), up_s]
        rfl
      · rw [hxB, up_n (by omega), up_s]; omega
      · rw [hxB, up_s]; omega
      · intro k
        rw [haB, up_s]
        by_cases hk : k < 60
        · rw [hG k hk]; omega
        · rw [hG2 k (by omega)]; exact hrow.2.2 k
      · rw [hxB, up_n (by omega), up_s, up_s]; omega
      · rw [hxB, up_n (by omega), up_n (by omega)]; rw [up_s]; omega), rfl, rfl⟩
        · refine z_aload_n (j := 1) dX7_sheet_39 rfl rfl ?_
          refine z_iconst dX7_sheet_40 ?_
          refine z_callVi (i := 0) (ci := 7) (As := [.int (iI 4)]) (rest := []) (c_X7_failed  hq (by omega)) dX7_sheet_41 gX7_sheet_X7_failed rfl cd_X7_failed ⟨Nat.le_of_ble_eq_true rfl, Nat.le_of_ble_eq_true rfl⟩ rfl rfl (by omega) rfl rfl rfl (Nat.le_of_ble_eq_true rfl) ⟨Nat.zero_le _, Nat.zero_le _⟩ (fun r_41 g_41 hp_41 => ?_)
          obtain ⟨e_41, xi_41, he_41, rfl, rfl⟩ := hp_41
          exact z_iret dX7_sheet_44 ⟨_, _, _, (by unfold spSheet; rw [if_neg (by omega), if_neg (by omega), if_pos (by omega), he_41.2, hu1]; exact ⟨⟨he_41.1, vX_fa hw⟩, XOk_fa hO (by omega)⟩), rfl, rfl⟩
      · refine z_bipush dX7_sheet_32 (by decide) ?_
        exact z_iret dX7_sheet_34 ⟨_, _, _, (by unfold spSheet; rw [if_neg (by omega), if_pos (by omega)]; exact ⟨⟨rfl, vX_fa hw⟩, hO0⟩), rfl, rfl⟩
    · refine z_if_eq (tgt := 32) dX7_sheet_23 (by decide) (by decide) (fun _ => ?_) (fun h => absurd h (by decide))
      refine z_bipush dX7_sheet_32 (by decide) ?_
      exact z_iret dX7_sheet_34 ⟨_, _, _, (by unfold spSheet; rw [if_neg (by omega), if_pos (by omega)]; exact ⟨⟨rfl, vX_fa hw⟩, hO0⟩), rfl, rfl⟩
  · rw [if_neg k_7]
    refine z_asnull ?_
    refine z_astoreN [(4, .null), (0, .ref (q 0)), (1, .int (iI z)), (2, .int (iI ln)), (3, .int (iI nn))] dX7_sheet_10 (by decide) rfl ?_
    refine z_aloadN (j := 0) dX7_sheet_12 rfl ?_
    refine z_ifnonnullN dX7_sheet_14 ?_
    refine z_iconst dX7_sheet_17 ?_
    exact z_iret dX7_sheet_18 ⟨_, _, _, (by unfold spSheet; rw [if_pos (by omega)]; exact ⟨⟨rfl, vX_fa hw⟩, hO0⟩), rfl, rfl⟩
set_option maxHeartbeats 400000 in
set_option maxRecDepth 100000 in
theorem c_X7_lose {l : Launch} {D : va_G} {cI cJ cZ cR : ClassId} {q : Nat → Nat} {w d : Nat} {xi : Nat → Int} {xa : Nat → Nat → Int} (hq : qOk 31 q) {z : Int} (hO : XOk w d xi xa) (hz : -2147483648 ≤ z ∧ z < 2147483648) : Cti l D vwCl (tysC cI cJ cZ cR) 31 q yX7_lose wsX7_lose ({ frames := 2, cells := 0, slots := 0, locals := 45 } : Room) [.ref (q 0), .int (iI z)] (cX cI cJ cZ cR q w d xi xa) (fun (r : Int32) (g : Nat → va_E) => ∃ (e : Int) (xi' : Nat → Int) (xa' : Nat → Nat → Int), (spLose (vX w xi xa) z e (vX w xi' xa') ∧ XOk w d xi' xa') ∧ r = iI e ∧ g = (cX cI cJ cZ cR q w d xi' xa')) := by
  refine Cti.of (cc := cX7_lose) (nL := 4) (own := RX7) (ret := (some .int)) (by decide) rfl rfl hq (Nat.le_of_ble_eq_true rfl) (fun p e s m args below meth c => ?_)
  obtain ⟨⟨hw, hd⟩, hRows, hRvs, hn2, ⟨hRd, hRd2⟩, hJ, ⟨hst, hTab⟩, hfa, hsg⟩ := id hO
  have hRw := hRvs w hw
  obtain ⟨hN, hP, hK, hM, hD, hB⟩ := id hRw
  have hnA : rN (aR (vX w xi xa)) = xi (10 + w) := rfl
  have hO0 := XOk_fa (f := 0) hO (by omega)
  have hRows0 := hRows
  refine z_aload_n (j := 0) dX7_lose_0 rfl rfl ?_
  refine z_iload_n (j := 1) dX7_lose_1 rfl rfl ?_
  refine z_callVq (i := 0) (ci := 7) (As := [.int (iI z)]) (rest := []) (c_X7_rowOf  hq (by omega)) dX7_lose_2 gX7_lose_X7_rowOf rfl cd_X7_rowOf ⟨Nat.le_of_ble_eq_true rfl, Nat.le_of_ble_eq_true rfl⟩ rfl rfl (by omega) rfl rfl rfl (Nat.le_of_ble_eq_true rfl) ⟨Nat.zero_le _, Nat.zero_le _⟩ (fun r_2 g_2 hp_2 => ?_)
  obtain ⟨rfl, rfl⟩ := hp_2
  by_cases k_2 : 0 ≤ z ∧ z < 4
  · rw [if_pos k_2]
    refine z_asref ?_
    refine z_astore_n [(2, .ref (q (2 + z.toNat))), (0, .ref (q 0)), (1, .int (iI z))] dX7_lose_5 rfl (by decide) rfl ?_
    refine z_aload_n (j := 0) dX7_lose_6 rfl rfl ?_
    refine z_ifnonnull (tgt := 12) dX7_lose_7 (by decide) ?_
    refine z_aload_n (j := 0) dX7_lose_12 rfl rfl ?_
    refine z_callVi (i := 2 + z.toNat) (ci := 3) (As := []) (rest := []) (c_X3_isNothing  hq (by omega) (hRows0 _ (by omega)).1) dX7_lose_13 gX7_lose_X3_isNothing rfl cd_X3_isNothing ⟨Nat.le_of_ble_eq_true rfl, Nat.le_of_ble_eq_true rfl⟩ rfl rfl (by omega) (cX_row (by omega)) rfl rfl (Nat.le_of_ble_eq_true rfl) ⟨Nat.zero_le _, Nat.zero_le _⟩ (fun r_13 g_13 hp_13 => ?_)
    obtain ⟨⟨h_13, rfl⟩ | ⟨h_13, rfl⟩, rfl⟩ := hp_13
    · refine z_if_ne (tgt := 23) dX7_lose_16 (by decide) (by decide) (fun _ => ?_) (fun h => absurd h (by decide))
      refine z_iconst dX7_lose_23 ?_
      refine z_callSi (As := [.int (iI 0)]) (rest := []) (c_X7_asBit  hq (by omega)) dX7_lose_24 gX7_lose_X7_asBit rfl cd_X7_asBit ⟨Nat.le_of_ble_eq_true rfl, Nat.le_of_ble_eq_true rfl⟩ rfl rfl rfl (Nat.le_of_ble_eq_true rfl) ⟨Nat.zero_le _, Nat.zero_le _⟩ (fun r_24 g_24 hp_24 => ?_)
      obtain ⟨⟨_, rfl, rfl⟩, rfl⟩ := hp_24
      refine z_istore_n [(3, .int (iI 0)), (2, .ref (q (2 + z.toNat))), (0, .ref (q 0)), (1, .int (iI z))] dX7_lose_27 rfl (by decide) rfl ?_
      refine z_aload_n (j := 1) dX7_lose_28 rfl rfl ?_
      refine z_iconst dX7_lose_29 ?_
      refine z_iconst dX7_lose_30 ?_
      refine z_callVv (i := 2 + z.toNat) (ci := 3) (As := [.int (iI (-1)), .int (iI 0)]) (rest := []) (c_X3_begin  hq (show z.toNat < 4 by omega) (hRows0 _ (by omega)).1 (by omega) (by omega)) dX7_lose_31 gX7_lose_X3_begin rfl cd_X3_begin ⟨Nat.le_of_ble_eq_true rfl, Nat.le_of_ble_eq_true rfl⟩ rfl rfl (by omega) (cX_row (by omega)) rfl rfl (Nat.le_of_ble_eq_true rfl) ⟨Nat.zero_le _, Nat.zero_le _⟩ (fun g_31 hp_31 => ?_)
      obtain ⟨xi_31, xa_31, he_31, rfl⟩ := hp_31
      obtain ⟨G, hG, hG2, hxB, haB⟩ := he_31
      refine z_iload_n (j := 0) dX7_lose_34 rfl rfl ?_
      exact z_iret dX7_lose_35 ⟨_, _, _, (by
      have hOO := hO
      unfold spLose; rw [if_neg (by omega), show aLan (vX w xi xa) z.toNat = xi (2 + z.toNat) from vlan (by omega)]
      first | rw [if_pos h_13] | rw [if_neg h_13]
      have hrow := (hRows0 z.toNat (by omega)).1
      refine ⟨⟨rfl, ?_⟩, XOk_sh hOO (j := z.toNat) (by omega) (fun k h1 h2 h3 => by rw [hxB, up_n h3, up_n h2]) (fun k hk => by rw [haB, up_n hk]) ⟨⟨?_, ?_, ?_⟩, ?_⟩ ?_⟩
      · rw [vX_sh (xi := xi) (xa := xa) (j := z.toNat) (l := -1) (n := 0) (g := fun _ => 0) hw (by omega) (fun k h1 h2 h3 => by rw [hxB, up_n h3, up_n h2]) (fun k hk => by rw [haB, up_n hk]) (by rw [hxB, up_n (by omega), up_s]) (by rw [hxB, up_s]; omega) (nrm_all0 (fun k hk => by rw [haB, up_s]; exact hG k (by omega)))]
        rw [hxB, up_n (by omega), up_n (by omega)]
        rfl
      · rw [hxB, up_n (by omega), up_s]; omega
      · rw [hxB, up_s]; omega
      · intro k
        rw [haB, up_s]
        by_cases hk : k < 60
        · rw [hG k hk]; omega
        · rw [hG2 k (by omega)]; exact hrow.2.2 k
      · rw [hxB, up_n (by omega), up_s, up_s]; omega
      · rw [hxB, up_n (by omega), up_n (by omega)]; exact hfa), rfl, rfl⟩
    · refine z_if_ne (tgt := 23) dX7_lose_16 (by decide) (by decide) (fun h => absurd h (by decide)) (fun _ => ?_)
      refine z_iconst dX7_lose_19 ?_
      refine z_goto (tgt := 24) dX7_lose_20 (by decide) ?_
      refine z_callSi (As := [.int (iI 1)]) (rest := []) (c_X7_asBit  hq (by omega)) dX7_lose_24 gX7_lose_X7_asBit rfl cd_X7_asBit ⟨Nat.le_of_ble_eq_true rfl, Nat.le_of_ble_eq_true rfl⟩ rfl rfl rfl (Nat.le_of_ble_eq_true rfl) ⟨Nat.zero_le _, Nat.zero_le _⟩ (fun r_24 g_24 hp_24 => ?_)
      obtain ⟨⟨_, rfl, rfl⟩, rfl⟩ := hp_24
      refine z_istore_n [(3, .int (iI 1)), (2, .ref (q (2 + z.toNat))), (0, .ref (q 0)), (1, .int (iI z))] dX7_lose_27 rfl (by decide) rfl ?_
      refine z_aload_n (j := 1) dX7_lose_28 rfl rfl ?_
      refine z_iconst dX7_lose_29 ?_
      refine z_iconst dX7_lose_30 ?_
      refine z_callVv (i := 2 + z.toNat) (ci := 3) (As := [.int (iI (-1)), .int (iI 0)]) (rest := []) (c_X3_begin  hq (show z.toNat < 4 by omega) (hRows0 _ (by omega)).1 (by omega) (by omega)) dX7_lose_31 gX7_lose_X3_begin rfl cd_X3_begin ⟨Nat.le_of_ble_eq_true rfl, Nat.le_of_ble_eq_true rfl⟩ rfl rfl (by omega) (cX_row (by omega)) rfl rfl (Nat.le_of_ble_eq_true rfl) ⟨Nat.zero_le _, Nat.zero_le _⟩ (fun g_31 hp_31 => ?_)
      obtain ⟨xi_31, xa_31, he_31, rfl⟩ := hp_31
      obtain ⟨G, hG, hG2, hxB, haB⟩ := he_31
      refine z_iload_n (j := 0) dX7_lose_34 rfl rfl ?_
      exact z_iret dX7_lose_35 ⟨_, _, _, (by
      have hOO := hO
      unfold spLose; rw [if_neg (by omega), show aLan (vX w xi xa) z.toNat = xi (2 + z.toNat) from vlan (by omega)]
      first | rw [if_pos h_13] | rw [if_neg h_13]
      have hrow := (hRows0 z.toNat (by omega)).1
      refine ⟨⟨rfl, ?_⟩, XOk_sh hOO (j := z.toNat) (by omega) (fun k h1 h2 h3 => by rw [hxB, up_n h3, up_n h2]) (fun k hk => by rw [haB, up_n hk]) ⟨⟨?_, ?_, ?_⟩, ?_⟩ ?_⟩
      · rw [vX_sh (xi := xi) (xa := xa) (j := z.toNat) (l := -1) (n := 0) (g := fun _ => 0) hw (by omega) (fun k h1 h2 h3 => by rw [hxB, up_n h3, up_n h2]) (fun k hk => by rw [haB, up_n hk]) (by rw [hxB, up_n (by omega), up_s]) (by rw [hxB, up_s]; omega) (nrm_all0 (fun k hk => by rw [haB, up_s]; exact hG k (by omega)))]
        rw [hxB, up_n (by omega), up_n (by omega)]
        rfl
      · rw [hxB, up_n (by omega), up_s]; omega
      · rw [hxB, up_s]; omega
      · intro k
        rw [haB, up_s]
        by_cases hk : k < 60
        · rw [hG k hk]; omega
        · rw [hG2 k (by omega)]; exact hrow.2.2 k
      · rw [hxB, up_n (by omega), up_s, up_s]; omega
      · rw [hxB, up_n (by omega), up_n (by omega)]; exact hfa), rfl, rfl⟩
  · rw [if_neg k_2]
    refine z_asnull ?_
    refine z_astore_nN [(2, .null), (0, .ref (q 0)), (1, .int (iI z))] dX7_lose_5 rfl (by decide) rfl ?_
    refine z_aload_nN (j := 0) dX7_lose_6 rfl rfl ?_
    refine z_ifnonnullN dX7_lose_7 ?_
    refine z_iconst dX7_lose_10 ?_
    exact z_iret dX7_lose_11 ⟨_, _, _, (by unfold spLose; rw [if_pos (by omega)]; exact ⟨⟨rfl, rfl⟩, hO⟩), rfl, rfl⟩
