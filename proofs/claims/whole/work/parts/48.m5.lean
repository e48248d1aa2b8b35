theorem cd_X8_planBarred : yX8_planBarred.cls = RX8 ∧ yX8_planBarred.cls ≠ "java/lang/invoke/MethodHandle" ∧ yX8_planBarred.cls ≠ "java/lang/invoke/VarHandle" ∧ (parseMethodDescriptor yX8_planBarred.desc).map (fun d => d.parameters.length) = some 5 := ⟨rfl, by decide +kernel, by decide +kernel, by decide +kernel⟩
theorem cd_X8_goPlan : yX8_goPlan.cls = RX8 ∧ yX8_goPlan.cls ≠ "java/lang/invoke/MethodHandle" ∧ yX8_goPlan.cls ≠ "java/lang/invoke/VarHandle" ∧ (parseMethodDescriptor yX8_goPlan.desc).map (fun d => d.parameters.length) = some 2 := ⟨rfl, by decide +kernel, by decide +kernel, by decide +kernel⟩
theorem m_X8_plan_f153 : Cond.fieldLink RX8 153 "PoleBehindModel" "firstWrong" "I" ∈ wsX8_plan := List.mem_of_getElem? (i := 2) rfl
theorem in_X8_plan_X8 : ∀ w ∈ wsX80, w ∈ wsX8_plan := fun _ h => List.mem_cons_of_mem _ (List.mem_append_right _ h)
theorem m_X8_plan_f150 : Cond.fieldLink RX8 150 "PoleBehindModel" "paceNow" "I" ∈ wsX8_plan := List.mem_of_getElem? (i := 4) rfl
theorem m_X8_plan_f147 : Cond.fieldLink RX8 147 "PoleBehindModel" "cellNow" "I" ∈ wsX8_plan := List.mem_of_getElem? (i := 3) rfl
theorem m_X8_plan_C118 : Cond.constantLong RX8 118 (lI (2)) ∈ wsX8_plan := List.mem_of_getElem? (i := 1) (by decide +kernel)
set_option maxHeartbeats 400000 in
set_option maxRecDepth 100000 in
theorem c_X8_plan {l : Launch} {D : va_G} {cI cJ cZ cR : ClassId} {q : Nat → Nat} {mi : Nat → Int} {ma : Nat → Nat → Int} (hq : qOk 18 q) {z ln i nn wh : Int} (hO : MOk mi ma) (hz : -2147483648 ≤ z ∧ z < 2147483648) (hl : -2147483648 ≤ ln ∧ ln < 2147483648) (hi : -2147483648 ≤ i ∧ i < 2147483648) (hnn : -2147483648 ≤ nn ∧ nn < 2147483648) (hwh : -2147483648 ≤ wh ∧ wh < 2147483648) : Cti l D vwCl (tysC cI cJ cZ cR) 18 q yX8_plan wsX8_plan ({ frames := 4, cells := 0, slots := 0, locals := 99 } : Room) [.ref (q 0), .int (iI z), .int (iI ln), .int (iI i), .int (iI nn), .int (iI wh)] (cM cI cJ cZ q mi ma) (fun (r : Int32) (g : Nat → va_E) => ∃ (e : Int) (mi' : Nat → Int), (spPlan (vM mi ma) z ln i nn wh e (vM mi' ma) ∧ MOk mi' ma) ∧ r = iI e ∧ g = (cM cI cJ cZ q mi' ma)) := by
  refine Cti.of (cc := cX8_plan) (nL := 7) (own := RX8) (ret := (some .int)) (by decide) rfl rfl hq (Nat.le_of_ble_eq_true rfl) (fun p e s m args below meth c => ?_)
  obtain ⟨hR, hn2, hQ, hSh, hSn, hHd, hRdg, hfa⟩ := id hO
  obtain ⟨hN, hP, hK, hM, hD, hB⟩ := id hR
  have hRM := MRv_M hR
  have hnn : rN (rvM mi ma) = mi 1 := rfl
  have hnA : rN (aR (vM mi ma)) = mi 1 := rfl
  refine z_aload_n (j := 0) dX8_plan_0 rfl rfl ?_
  refine z_iload_n (j := 1) dX8_plan_1 rfl rfl ?_
  refine z_iload_n (j := 2) dX8_plan_2 rfl rfl ?_
  refine z_iload_n (j := 3) dX8_plan_3 rfl rfl ?_
  refine z_iload (j := 4) dX8_plan_4 rfl ?_
  have hj_16 : ∀ (okb : Int), ((okb = 1 ∧ (0 ≤ wh ∧ wh ≤ 2)) ∨ (okb = 0 ∧ ¬ (0 ≤ wh ∧ wh ≤ 2))) → ZMi l D vwCl (tysC cI cJ cZ cR) 18 q ({ frames := 4, cells := 0, slots := 0, locals := 99 } : Room) cX8_plan 7 RX8 wsX8_plan (some .int) (fun (r : Int32) (g : Nat → va_E) => ∃ (e : Int) (mi' : Nat → Int), (spPlan (vM mi ma) z ln i nn wh e (vM mi' ma) ∧ MOk mi' ma) ∧ r = iI e ∧ g = (cM cI cJ cZ q mi' ma)) p e s m args below meth c (cM cI cJ cZ q mi ma) 16 [(0, .ref (q 0)), (1, .int (iI z)), (2, .int (iI ln)), (3, .int (iI i)), (4, .int (iI nn)), (5, .int (iI wh))] [.int (iI okb), .int (iI nn), .int (iI i), .int (iI ln), .int (iI z), .ref (q 0)] := by
    intro okb hok
    refine z_callVi (i := 0) (ci := 8) (As := [.int (iI z), .int (iI ln), .int (iI i), .int (iI nn), .int (iI okb)]) (rest := []) (c_X8_planBarred  hq hO (by omega) (by omega) (by omega) (by omega) (by omega)) dX8_plan_16 gX8_plan_X8_planBarred rfl cd_X8_planBarred ⟨Nat.le_of_ble_eq_true rfl, Nat.le_of_ble_eq_true rfl⟩ rfl rfl (by omega) rfl rfl rfl (Nat.le_of_ble_eq_true rfl) ⟨Nat.zero_le _, Nat.zero_le _⟩ (fun r_16 g_16 hp_16 => ?_)
    obtain ⟨e_16, mi_16, he_16, rfl, rfl⟩ := hp_16
    have hcr := chkP_rng (A := vM mi ma) (s := z) (l := ln) (i := i) (n := nn) (p := okb = 1)
    refine z_istore [(6, .int (iI e_16)), (0, .ref (q 0)), (1, .int (iI z)), (2, .int (iI ln)), (3, .int (iI i)), (4, .int (iI nn)), (5, .int (iI wh))] dX8_plan_19 (by decide) rfl ?_
    refine z_iload (j := 0) dX8_plan_21 rfl ?_
    refine z_if_ge (tgt := 29) dX8_plan_23 (by decide) (by omega) (fun c_23 => ?_) (fun c_23 => ?_)
    · have hck : (chkPlan (vM mi ma) z ln i nn (okb = 1)).1 = 0 := by omega
      have hck3 : (chkPlan (vM mi ma) z ln i nn (0 ≤ wh ∧ wh ≤ 2)).1 = 0 := by rw [chkPlan_iff (q := okb = 1) (by omega)]; exact hck
      have hck2 := chkP_0 hck3
      have hmi : mi_16 = va_up mi 0 0 := by rw [he_16.2, chkP_0 hck]
      obtain ⟨k1, k2, k3, k4, k5, k6, k7, k8⟩ := planM hck
      have hs14 := (hSh z.toNat).1
      have hrl := runS_lt (R := rvM mi ma) (g := actG (vM mi ma) z.toNat i) (p0 := mi 2) hN.2 (by rw [hnn]; omega) nn.toNat
      have hwr := run_wr (A := vM mi ma) (j := z.toNat) (i := i) k2
      have hRy : MRv mi_16 ma := by rw [hmi]; exact MRv_eq (up_n (by decide)) (up_n (by decide)) rfl rfl rfl rfl hR
      have hRe : rvM mi_16 ma = rvM mi ma := by rw [hmi]; exact rvM_eq (up_n (by decide)) rfl rfl rfl rfl
      have h2e : mi_16 2 = mi 2 := by rw [hmi]; exact up_n (by decide)
      have h1e : mi_16 1 = mi 1 := by rw [hmi]; exact up_n (by decide)
      refine z_aload_n (j := 1) dX8_plan_29 rfl rfl ?_
      refine z_bipush dX8_plan_30 (by decide) ?_
      refine z_iload_n (j := 2) dX8_plan_32 rfl rfl ?_
      refine z_imul dX8_plan_33 ?_
      refine z_iload_n (j := 4) dX8_plan_34 rfl rfl ?_
      refine z_iadd dX8_plan_35 ?_
      refine z_iload (j := 5) dX8_plan_36 rfl ?_
      refine z_callVv (i := 0) (ci := 8) (As := [.int (iI ((60 * z) + i)), .int (iI nn)]) (rest := []) (c_X8_goPlan  hq hRy (by omega) (by omega) k8) dX8_plan_38 gX8_plan_X8_goPlan rfl cd_X8_goPlan ⟨Nat.le_of_ble_eq_true rfl, Nat.le_of_ble_eq_true rfl⟩ rfl rfl (by omega) rfl rfl rfl (Nat.le_of_ble_eq_true rfl) ⟨Nat.zero_le _, Nat.zero_le _⟩ (fun g_38 hp_38 => ?_)
      obtain ⟨mi_38, he_38, rfl⟩ := hp_38
      rw [hRe, h2e, runM k7 (by omega)] at he_38
      obtain ⟨w16, w1, wf⟩ := he_38
      have w16b : mi_38 16 = (runA (vM mi ma) z.toNat i nn).2 := w16
      have hv : vM mi_38 ma = sFa (vM mi ma) 0 := by
        rw [vM_fr (mi := mi) (ma := ma) (by rw [wf 1 (by decide) (by decide) (by decide) (by decide) (by decide), h1e]) (by rw [wf 2 (by decide) (by decide) (by decide) (by decide) (by decide), h2e]) (by rw [wf 22 (by decide) (by decide) (by decide) (by decide) (by decide), hmi, up_n (by decide)]) (fun _ _ => rfl), wf 29 (by decide) (by decide) (by decide) (by decide) (by decide), wf 0 (by decide) (by decide) (by decide) (by decide) (by decide), hmi, up_s, up_n (by decide)]
        rfl
      have ho : MOk mi_38 ma := MOk_fr hO (by rw [wf 1 (by decide) (by decide) (by decide) (by decide) (by decide), h1e]) (by rw [wf 2 (by decide) (by decide) (by decide) (by decide) (by decide), h2e]) (by rw [wf 22 (by decide) (by decide) (by decide) (by decide) (by decide), hmi, up_n (by decide)]) (fun _ _ => rfl) (by rw [wf 0 (by decide) (by decide) (by decide) (by decide) (by decide), hmi, up_s]; omega)
      refine z_iload (j := 6) dX8_plan_41 rfl ?_
      refine z_iconst dX8_plan_43 ?_
      refine z_icmp_ne (tgt := 52) dX8_plan_44 (by decide) (by omega) (by decide) (fun c_44 => ?_) (fun c_44 => ?_)
      · refine z_aload_n (j := 1) dX8_plan_52 rfl rfl ?_
        refine z_getf (i := 0) (ci := 8) (k := 16) (v := .int (iI (mi_38 16))) dX8_plan_53 m_X8_plan_f153 in_X8_plan_X8 rfl (by decide) rfl (by omega) rfl rfl ?_
        refine z_if_lt (tgt := 69) dX8_plan_56 (by decide) (by omega) (fun c_56 => ?_) (fun c_56 => ?_)
        · refine z_iload (j := 6) dX8_plan_69 rfl ?_
          refine z_if_ne (tgt := 81) dX8_plan_71 (by decide) (by omega) (fun c_71 => ?_) (fun c_71 => ?_)
          · refine z_aload_n (j := 1) dX8_plan_81 rfl rfl ?_
            refine z_getf (i := 0) (ci := 8) (k := 15) (v := .int (iI (mi_38 15))) dX8_plan_82 m_X8_plan_f150 in_X8_plan_X8 rfl (by decide) rfl (by omega) rfl rfl ?_
            exact z_iret dX8_plan_85 ⟨_, _, (by
      unfold spPlan; rw [if_neg (by omega), if_neg (by omega)]
      first
        | (rw [if_pos (by omega), w16b]; exact ⟨⟨hv, rfl⟩, ho⟩)
        | (rw [if_neg (by omega), if_pos (by omega)]; exact ⟨⟨hv, (w1 (by omega)).1⟩, ho⟩)
        | (rw [if_neg (by omega), if_neg (by omega)]; exact ⟨⟨hv, (w1 (by omega)).2.1⟩, ho⟩)), rfl, rfl⟩
          · refine z_aload_n (j := 1) dX8_plan_74 rfl rfl ?_
            refine z_getf (i := 0) (ci := 8) (k := 14) (v := .int (iI (mi_38 14))) dX8_plan_75 m_X8_plan_f147 in_X8_plan_X8 rfl (by decide) rfl (by omega) rfl rfl ?_
            refine z_goto (tgt := 85) dX8_plan_78 (by decide) ?_
            exact z_iret dX8_plan_85 ⟨_, _, (by
      unfold spPlan; rw [if_neg (by omega), if_neg (by omega)]
      first
        | (rw [if_pos (by omega), w16b]; exact ⟨⟨hv, rfl⟩, ho⟩)
        | (rw [if_neg (by omega), if_pos (by omega)]; exact ⟨⟨hv, (w1 (by omega)).1⟩, ho⟩)
        | (rw [if_neg (by omega), if_neg (by omega)]; exact ⟨⟨hv, (w1 (by omega)).2.1⟩, ho⟩)), rfl, rfl⟩
        · refine z_bipush dX8_plan_59 (by decide) ?_
          refine z_aload_n (j := 1) dX8_plan_61 rfl rfl ?_
          refine z_getf (i := 0) (ci := 8) (k := 16) (v := .int (iI (mi_38 16))) dX8_plan_62 m_X8_plan_f153 in_X8_plan_X8 rfl (by decide) rfl (by omega) rfl rfl ?_
          refine z_isub dX8_plan_65 ?_
          refine z_goto (tgt := 85) dX8_plan_66 (by decide) ?_
          exact z_iret dX8_plan_85 ⟨_, _, (by
      unfold spPlan; rw [if_neg (by omega), if_neg (by omega)]
      first
        | (rw [if_pos (by omega), w16b]; exact ⟨⟨hv, rfl⟩, ho⟩)
        | (rw [if_neg (by omega), if_pos (by omega)]; exact ⟨⟨hv, (w1 (by omega)).1⟩, ho⟩)
        | (rw [if_neg (by omega), if_neg (by omega)]; exact ⟨⟨hv, (w1 (by omega)).2.1⟩, ho⟩)), rfl, rfl⟩
      · refine z_aload_n (j := 1) dX8_plan_47 rfl rfl ?_
        refine z_getf (i := 0) (ci := 8) (k := 16) (v := .int (iI (mi_38 16))) dX8_plan_48 m_X8_plan_f153 in_X8_plan_X8 rfl (by decide) rfl (by omega) rfl rfl ?_
        exact z_iret dX8_plan_51 ⟨_, _, (by unfold spPlan; rw [if_neg (by omega), if_pos (by omega)]; exact ⟨⟨hv, w16b⟩, ho⟩), rfl, rfl⟩
    · refine z_iload (j := 0) dX8_plan_26 rfl ?_
      exact z_iret dX8_plan_28 ⟨_, _, (by
      have hne : (chkPlan (vM mi ma) z ln i nn (0 ≤ wh ∧ wh ≤ 2)).1 ≠ 0 := by rw [chkPlan_iff (q := okb = 1) (by omega), ← he_16.1]; omega
      unfold spPlan; rw [if_pos hne, chkPlan_iff (p := 0 ≤ wh ∧ wh ≤ 2) (q := okb = 1) (by omega), he_16.2]
      exact ⟨⟨he_16.1, vM_fa⟩, MOk_fa hO chkP_f⟩), rfl, rfl⟩
  refine z_iload (j := 5) dX8_plan_6 rfl ?_
  refine z_i2l dX8_plan_8 (by omega) ?_
  refine z_lconst (z := 0) dX8_plan_9 (by decide) ?_
  refine z_ldc2 dX8_plan_10 m_X8_plan_C118 ?_
  refine z_callSi (As := [.long (lI wh), .long (lI 0), .long (lI 2)]) (rest := [.int (iI nn), .int (iI i), .int (iI ln), .int (iI z), .ref (q 0)]) (c_X8_in  hq (by omega) (by omega) (by omega)) dX8_plan_13 gX8_plan_X8_in rfl cd_X8_in ⟨Nat.le_of_ble_eq_true rfl, Nat.le_of_ble_eq_true rfl⟩ rfl rfl rfl (Nat.le_of_ble_eq_true rfl) ⟨Nat.zero_le _, Nat.zero_le _⟩ (fun r_13 g_13 hp_13 => ?_)
  obtain ⟨⟨h_13, rfl⟩ | ⟨h_13, rfl⟩, rfl⟩ := hp_13
  · exact z_sub [(0, .ref (q 0)), (1, .int (iI z)), (2, .int (iI ln)), (3, .int (iI i)), (4, .int (iI nn)), (5, .int (iI wh))] [0, 1, 2, 3, 4, 5] rfl (hj_16 1 (by omega))
  · exact z_sub [(0, .ref (q 0)), (1, .int (iI z)), (2, .int (iI ln)), (3, .int (iI i)), (4, .int (iI nn)), (5, .int (iI wh))] [0, 1, 2, 3, 4, 5] rfl (hj_16 0 (by omega))
theorem m_X8_dry_f153 : Cond.fieldLink RX8 153 "PoleBehindModel" "firstWrong" "I" ∈ wsX8_dry := List.mem_of_getElem? (i := 1) rfl
theorem in_X8_dry_X8 : ∀ w ∈ wsX80, w ∈ wsX8_dry := fun _ h => List.mem_cons_of_mem _ (List.mem_append_right _ h)
theorem m_X8_dry_f156 : Cond.fieldLink RX8 156 "PoleBehindModel" "dryNow" "J" ∈ wsX8_dry := List.mem_of_getElem? (i := 2) rfl
theorem cd_X8_tens : yX8_tens.cls ≠ "java/lang/invoke/MethodHandle" ∧ yX8_tens.cls ≠ "java/lang/invoke/VarHandle" ∧ (parseMethodDescriptor yX8_tens.desc).map (fun d => d.parameters.length) = some 1 := ⟨by decide +kernel, by decide +kernel, by decide +kernel⟩
theorem cd_X8_told : yX8_told.cls ≠ "java/lang/invoke/MethodHandle" ∧ yX8_told.cls ≠ "java/lang/invoke/VarHandle" ∧ (parseMethodDescriptor yX8_told.desc).map (fun d => d.parameters.length) = some 3 := ⟨by decide +kernel, by decide +kernel, by decide +kernel⟩
set_option maxHeartbeats 400000 in
set_option maxRecDepth 100000 in
theorem c_X8_dry {l : Launch} {D : va_G} {cI cJ cZ cR : ClassId} {q : Nat → Nat} {mi : Nat → Int} {ma : Nat → Nat → Int} (hq : qOk 18 q) {z ln i nn wh : Int} (hO : MOk mi ma) (hz : -2147483648 ≤ z ∧ z < 2147483648) (hl : -2147483648 ≤ ln ∧ ln < 2147483648) (hi : -2147483648 ≤ i ∧ i < 2147483648) (hnn : -2147483648 ≤ nn ∧ nn < 2147483648) (hwh : -2147483648 ≤ wh ∧ wh < 2147483648) : Ctl l D vwCl (tysC cI cJ cZ cR) 18 q yX8_dry wsX8_dry ({ frames := 4, cells := 0, slots := 0, locals := 99 } : Room) [.ref (q 0), .int (iI z), .int (iI ln), .int (iI i), .int (iI nn), .int (iI wh)] (cM cI cJ cZ q mi ma) (fun (r : Int64) (g : Nat → va_E) => ∃ (e : Int) (mi' : Nat → Int), (spDry (vM mi ma) z ln i nn wh e (vM mi' ma) ∧ MOk mi' ma) ∧ r = lI e ∧ g = (cM cI cJ cZ q mi' ma)) := by
  refine Ctl.of (cc := cX8_dry) (nL := 6) (own := RX8) (ret := (some .long)) (by decide) rfl rfl hq (Nat.le_of_ble_eq_true rfl) (fun p e s m args below meth c => ?_)
  obtain ⟨hR, hn2, hQ, hSh, hSn, hHd, hRdg, hfa⟩ := id hO
  obtain ⟨hN, hP, hK, hM, hD, hB⟩ := id hR
  have hRM := MRv_M hR
  have hnn : rN (rvM mi ma) = mi 1 := rfl
  have hnA : rN (aR (vM mi ma)) = mi 1 := rfl
  refine z_aload_n (j := 0) dX8_dry_0 rfl rfl ?_
  refine z_iload_n (j := 1) dX8_dry_1 rfl rfl ?_
  refine z_iload_n (j := 2) dX8_dry_2 rfl rfl ?_
  refine z_iload_n (j := 3) dX8_dry_3 rfl rfl ?_
  refine z_iload (j := 4) dX8_dry_4 rfl ?_
  have hj_14 : ∀ (okb : Int), ((okb = 1 ∧ (wh = 0 ∨ wh = 1)) ∨ (okb = 0 ∧ ¬ (wh = 0 ∨ wh = 1))) → ZMl l D vwCl (tysC cI cJ cZ cR) 18 q ({ frames := 4, cells := 0, slots := 0, locals := 99 } : Room) cX8_dry 6 RX8 wsX8_dry (some .long) (fun (r : Int64) (g : Nat → va_E) => ∃ (e : Int) (mi' : Nat → Int), (spDry (vM mi ma) z ln i nn wh e (vM mi' ma) ∧ MOk mi' ma) ∧ r = lI e ∧ g = (cM cI cJ cZ q mi' ma)) p e s m args below meth c (cM cI cJ cZ q mi ma) 14 [(0, .ref (q 0)), (1, .int (iI z)), (2, .int (iI ln)), (3, .int (iI i)), (4, .int (iI nn)), (5, .int (iI wh))] [.int (iI okb), .int (iI nn), .int (iI i), .int (iI ln), .int (iI z), .ref (q 0)] := by
    intro okb hok
    refine z_callVi (i := 0) (ci := 8) (As := [.int (iI z), .int (iI ln), .int (iI i), .int (iI nn), .int (iI okb)]) (rest := []) (c_X8_planBarred  hq hO (by omega) (by omega) (by omega) (by omega) (by omega)) dX8_dry_14 gX8_dry_X8_planBarred rfl cd_X8_planBarred ⟨Nat.le_of_ble_eq_true rfl, Nat.le_of_ble_eq_true rfl⟩ rfl rfl (by omega) rfl rfl rfl (Nat.le_of_ble_eq_true rfl) ⟨Nat.zero_le _, Nat.zero_le _⟩ (fun r_14 g_14 hp_14 => ?_)
    obtain ⟨e_14, mi_14, he_14, rfl, rfl⟩ := hp_14
    have hcr := chkP_rng (A := vM mi ma) (s := z) (l := ln) (i := i) (n := nn) (p := okb = 1)
    refine z_if_ge (tgt := 24) dX8_dry_17 (by decide) (by omega) (fun c_17 => ?_) (fun c_17 => ?_)
    · have hck : (chkPlan (vM mi ma) z ln i nn (okb = 1)).1 = 0 := by omega
      have hck3 : (chkPlan (vM mi ma) z ln i nn (wh = 0 ∨ wh = 1)).1 = 0 := by rw [chkPlan_iff (q := okb = 1) (by omega)]; exact hck
      have hck2 := chkP_0 hck3
      have hmi : mi_14 = va_up mi 0 0 := by rw [he_14.2, chkP_0 hck]
      obtain ⟨k1, k2, k3, k4, k5, k6, k7, k8⟩ := planM hck
      have hs14 := (hSh z.toNat).1
      have hrl := runS_lt (R := rvM mi ma) (g := actG (vM mi ma) z.toNat i) (p0 := mi 2) hN.2 (by rw [hnn]; omega) nn.toNat
      have hwr := run_wr (A := vM mi ma) (j := z.toNat) (i := i) k2
      have hRy : MRv mi_14 ma := by rw [hmi]; exact MRv_eq (up_n (by decide)) (up_n (by decide)) rfl rfl rfl rfl hR
      have hRe : rvM mi_14 ma = rvM mi ma := by rw [hmi]; exact rvM_eq (up_n (by decide)) rfl rfl rfl rfl
      have h2e : mi_14 2 = mi 2 := by rw [hmi]; exact up_n (by decide)
      have h1e : mi_14 1 = mi 1 := by rw [hmi]; exact up_n (by decide)
      refine z_aload_n (j := 0) dX8_dry_24 rfl rfl ?_
      refine z_bipush dX8_dry_25 (by decide) ?_
      refine z_iload_n (j := 1) dX8_dry_27 rfl rfl ?_
      refine z_imul dX8_dry_28 ?_
      refine z_iload_n (j := 3) dX8_dry_29 rfl rfl ?_
      refine z_iadd dX8_dry_30 ?_
      refine z_iload (j := 4) dX8_dry_31 rfl ?_
      refine z_callVv (i := 0) (ci := 8) (As := [.int (iI ((60 * z) + i)), .int (iI nn)]) (rest := []) (c_X8_goPlan  hq hRy (by omega) (by omega) k8) dX8_dry_33 gX8_dry_X8_goPlan rfl cd_X8_goPlan ⟨Nat.le_of_ble_eq_true rfl, Nat.le_of_ble_eq_true rfl⟩ rfl rfl (by omega) rfl rfl rfl (Nat.le_of_ble_eq_true rfl) ⟨Nat.zero_le _, Nat.zero_le _⟩ (fun g_33 hp_33 => ?_)
      obtain ⟨mi_33, he_33, rfl⟩ := hp_33
      rw [hRe, h2e, runM k7 (by omega)] at he_33
      obtain ⟨w16, w1, wf⟩ := he_33
      have w16b : mi_33 16 = (runA (vM mi ma) z.toNat i nn).2 := w16
      have hv : vM mi_33 ma = sFa (vM mi ma) 0 := by
        rw [vM_fr (mi := mi) (ma := ma) (by rw [wf 1 (by decide) (by decide) (by decide) (by decide) (by decide), h1e]) (by rw [wf 2 (by decide) (by decide) (by decide) (by decide) (by decide), h2e]) (by rw [wf 22 (by decide) (by decide) (by decide) (by decide) (by decide), hmi, up_n (by decide)]) (fun _ _ => rfl), wf 29 (by decide) (by decide) (by decide) (by decide) (by decide), wf 0 (by decide) (by decide) (by decide) (by decide) (by decide), hmi, up_s, up_n (by decide)]
        rfl
      have ho : MOk mi_33 ma := MOk_fr hO (by rw [wf 1 (by decide) (by decide) (by decide) (by decide) (by decide), h1e]) (by rw [wf 2 (by decide) (by decide) (by decide) (by decide) (by decide), h2e]) (by rw [wf 22 (by decide) (by decide) (by decide) (by decide) (by decide), hmi, up_n (by decide)]) (fun _ _ => rfl) (by rw [wf 0 (by decide) (by decide) (by decide) (by decide) (by decide), hmi, up_s]; omega)
      have hdw : (runA (vM mi ma) z.toNat i nn).2 = -9 → mi_33 17 = dryA (vM mi ma) z.toNat i nn (-1) 0 := fun q => by
        have g := (w1 q).2.2.1
        rw [g]
        exact dryM hR (by omega) k7
      have hdr := dryM_rng (j := z.toNat) (i := i) (nn := nn) hR (-1) (show (0 : Int) ≤ 0 ∧ (0 : Int) ≤ 9 by omega)
      have h10 := pow10_le (show nn.toNat ≤ 18 by omega)
      have h100 : (0 : Int) < 10 ^ nn.toNat := Int.pow_pos (by decide)
      refine z_aload_n (j := 0) dX8_dry_36 rfl rfl ?_
      refine z_getf (i := 0) (ci := 8) (k := 16) (v := .int (iI (mi_33 16))) dX8_dry_37 m_X8_dry_f153 in_X8_dry_X8 rfl (by decide) rfl (by omega) rfl rfl ?_
      refine z_if_lt (tgt := 49) dX8_dry_40 (by decide) (by omega) (fun c_40 => ?_) (fun c_40 => ?_)
      · refine z_aload_n (j := 0) dX8_dry_49 rfl rfl ?_
        refine z_getf (i := 0) (ci := 8) (k := 17) (v := .long (lI (mi_33 17))) dX8_dry_50 m_X8_dry_f156 in_X8_dry_X8 rfl (by decide) rfl (by omega) rfl rfl ?_
        refine z_iload (j := 4) dX8_dry_53 rfl ?_
        refine z_callSl (As := [.int (iI nn)]) (rest := [.long (lI (mi_33 17))]) (c_X8_tens  hq (by omega)) dX8_dry_55 gX8_dry_X8_tens rfl cd_X8_tens ⟨Nat.le_of_ble_eq_true rfl, Nat.le_of_ble_eq_true rfl⟩ rfl rfl rfl (Nat.le_of_ble_eq_true rfl) ⟨Nat.zero_le _, Nat.zero_le _⟩ (fun r_55 g_55 hp_55 => ?_)
        obtain ⟨⟨_, rfl, rfl⟩, rfl⟩ := hp_55
        refine z_iload (j := 5) dX8_dry_58 rfl ?_
        refine z_callSl (As := [.long (lI (mi_33 17)), .long (lI (10 ^ nn.toNat)), .int (iI wh)]) (rest := []) (c_X8_told  hq (by rw [hdw (by omega)]; omega) (by omega) (by omega)) dX8_dry_60 gX8_dry_X8_told rfl cd_X8_told ⟨Nat.le_of_ble_eq_true rfl, Nat.le_of_ble_eq_true rfl⟩ rfl rfl rfl (Nat.le_of_ble_eq_true rfl) ⟨Nat.zero_le _, Nat.zero_le _⟩ (fun r_60 g_60 hp_60 => ?_)
        obtain ⟨⟨e_60, he_60, rfl⟩, rfl⟩ := hp_60
        exact z_lret dX8_dry_63 ⟨_, _, (by
      unfold spDry
      first
        | (rw [if_pos (Or.inr (by omega)), hck2]; exact ⟨⟨hv, rfl⟩, ho⟩)
        | (rw [if_neg (by omega), hck2]; refine ⟨⟨hv, ?_⟩, ho⟩; rw [he_60, hdw (by omega)]; rfl)), rfl, rfl⟩
      · refine z_callSl (As := []) (rest := []) (c_X8_lost  hq ) dX8_dry_43 gX8_dry_X8_lost rfl cd_X8_lost ⟨Nat.le_of_ble_eq_true rfl, Nat.le_of_ble_eq_true rfl⟩ rfl rfl rfl (Nat.le_of_ble_eq_true rfl) ⟨Nat.zero_le _, Nat.zero_le _⟩ (fun r_43 g_43 hp_43 => ?_)
        obtain ⟨⟨_, rfl, rfl⟩, rfl⟩ := hp_43
        refine z_goto (tgt := 63) dX8_dry_46 (by decide) ?_
        exact z_lret dX8_dry_63 ⟨_, _, (by
      unfold spDry
      first
        | (rw [if_pos (Or.inr (by omega)), hck2]; exact ⟨⟨hv, rfl⟩, ho⟩)
        | (rw [if_neg (by omega), hck2]; refine ⟨⟨hv, ?_⟩, ho⟩; rw [he_60, hdw (by omega)]; rfl)), rfl, rfl⟩
    · refine z_callSl (As := []) (rest := []) (c_X8_lost  hq ) dX8_dry_20 gX8_dry_X8_lost rfl cd_X8_lost ⟨Nat.le_of_ble_eq_true rfl, Nat.le_of_ble_eq_true rfl⟩ rfl rfl rfl (Nat.le_of_ble_eq_true rfl) ⟨Nat.zero_le _, Nat.zero_le _⟩ (fun r_20 g_20 hp_20 => ?_)
      obtain ⟨⟨_, rfl, rfl⟩, rfl⟩ := hp_20
      exact z_lret dX8_dry_23 ⟨_, _, (by
      have hne : (chkPlan (vM mi ma) z ln i nn (wh = 0 ∨ wh = 1)).1 ≠ 0 := by rw [chkPlan_iff (q := okb = 1) (by omega), ← he_14.1]; omega
      unfold spDry; rw [if_pos (Or.inl hne), chkPlan_iff (p := wh = 0 ∨ wh = 1) (q := okb = 1) (by omega), he_14.2]
      exact ⟨⟨vM_fa, rfl⟩, MOk_fa hO chkP_f⟩), rfl, rfl⟩
  refine z_iload (j := 5) dX8_dry_6 rfl ?_
  refine z_i2l dX8_dry_8 (by omega) ?_
  refine z_lconst (z := 0) dX8_dry_9 (by decide) ?_
  refine z_lconst (z := 1) dX8_dry_10 (by decide) ?_
  refine z_callSi (As := [.long (lI wh), .long (lI 0), .long (lI 1)]) (rest := [.int (iI nn), .int (iI i), .int (iI ln), .int (iI z), .ref (q 0)]) (c_X8_in  hq (by omega) (by omega) (by omega)) dX8_dry_11 gX8_dry_X8_in rfl cd_X8_in ⟨Nat.le_of_ble_eq_true rfl, Nat.le_of_ble_eq_true rfl⟩ rfl rfl rfl (Nat.le_of_ble_eq_true rfl) ⟨Nat.zero_le _, Nat.zero_le _⟩ (fun r_11 g_11 hp_11 => ?_)
  obtain ⟨⟨h_11, rfl⟩ | ⟨h_11, rfl⟩, rfl⟩ := hp_11
  · exact z_sub [(0, .ref (q 0)), (1, .int (iI z)), (2, .int (iI ln)), (3, .int (iI i)), (4, .int (iI nn)), (5, .int (iI wh))] [0, 1, 2, 3, 4, 5] rfl (hj_14 1 (by omega))
  · exact z_sub [(0, .ref (q 0)), (1, .int (iI z)), (2, .int (iI ln)), (3, .int (iI i)), (4, .int (iI nn)), (5, .int (iI wh))] [0, 1, 2, 3, 4, 5] rfl (hj_14 0 (by omega))
