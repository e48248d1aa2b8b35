theorem m_X7_takeDraft_f20 : Cond.fieldLink RX7 20 "PoleBehind" "water" "LPoleBehind$River;" ∈ wsX7_takeDraft := List.mem_of_getElem? (i := 1) rfl
theorem in_X7_takeDraft_X7 : ∀ w ∈ wsX70, w ∈ wsX7_takeDraft := fun _ h => List.mem_cons_of_mem _ (List.mem_append_left _ (List.mem_append_left _ (List.mem_append_right _ h)))
theorem m_X7_takeDraft_f24 : Cond.fieldLink RX7 24 "PoleBehind" "draft" "LPoleBehind$River;" ∈ wsX7_takeDraft := List.mem_of_getElem? (i := 2) rfl
theorem m_X7_takeDraft_f44 : Cond.fieldLink RX7 44 "PoleBehind" "readings" "LPoleBehind$Readings;" ∈ wsX7_takeDraft := List.mem_of_getElem? (i := 3) rfl
theorem in_X7_takeDraft_X1 : ∀ w ∈ wsX10, w ∈ wsX7_takeDraft := fun _ h => List.mem_cons_of_mem _ (List.mem_append_left _ (List.mem_append_right _ h))
theorem m_X7_takeDraft_f51 : Cond.fieldLink RX7 51 "PoleBehind" "sureTable" "LPoleBehind$SureTable;" ∈ wsX7_takeDraft := List.mem_of_getElem? (i := 4) rfl
set_option maxHeartbeats 400000 in
set_option maxRecDepth 100000 in
theorem c_X7_takeDraft {l : Launch} {D : va_G} {cI cJ cZ cR : ClassId} {q : Nat → Nat} {w d : Nat} {xi : Nat → Int} {xa : Nat → Nat → Int} (hq : qOk 31 q)  (hwd : w < 2 ∧ d < 2) : Ctv l D vwCl (tysC cI cJ cZ cR) 31 q yX7_takeDraft wsX7_takeDraft ({ frames := 1, cells := 0, slots := 0, locals := 20 } : Room) [.ref (q 0)] (cX cI cJ cZ cR q w d xi xa) (fun (g : Nat → va_E) => ∃ (w' : Nat) (d' : Nat) (xi' : Nat → Int), (w' = d ∧ d' = w ∧ xi' = va_up (va_up xi 18 0) 19 0) ∧ g = (cX cI cJ cZ cR q w' d' xi' xa)) := by
  refine Ctv.of (cc := cX7_takeDraft) (nL := 2) (own := RX7) (ret := none) (by decide) rfl rfl hq (Nat.le_of_ble_eq_true rfl) (fun p e s m args below meth c => ?_)
  refine z_aload_n (j := 0) dX7_takeDraft_0 rfl rfl ?_
  refine z_getf (i := 0) (ci := 7) (k := 1) (v := .ref (q (10 + w))) dX7_takeDraft_1 m_X7_takeDraft_f20 in_X7_takeDraft_X7 rfl (by decide) rfl (by omega) rfl rfl ?_
  refine z_astore_n [(1, .ref (q (10 + w))), (0, .ref (q 0))] dX7_takeDraft_4 rfl (by decide) rfl ?_
  refine z_aload_n (j := 1) dX7_takeDraft_5 rfl rfl ?_
  refine z_aload_n (j := 1) dX7_takeDraft_6 rfl rfl ?_
  refine z_getf (i := 0) (ci := 7) (k := 2) (v := .ref (q (10 + d))) dX7_takeDraft_7 m_X7_takeDraft_f24 in_X7_takeDraft_X7 rfl (by decide) rfl (by omega) rfl rfl ?_
  refine z_putf (i := 0) (ci := 7) (k := 1) (cX cI cJ cZ cR q d d xi xa) dX7_takeDraft_10 m_X7_takeDraft_f20 in_X7_takeDraft_X7 rfl (by decide) rfl (by omega) rfl tyX7_ok nmX7 rfl rfl rfl (Nat.le_of_ble_eq_true rfl) lx_water ?_
  refine z_aload_n (j := 1) dX7_takeDraft_13 rfl rfl ?_
  refine z_aload_n (j := 0) dX7_takeDraft_14 rfl rfl ?_
  refine z_putf (i := 0) (ci := 7) (k := 2) (cX cI cJ cZ cR q d w xi xa) dX7_takeDraft_15 m_X7_takeDraft_f24 in_X7_takeDraft_X7 rfl (by decide) rfl (by omega) rfl tyX7_ok nmX7 rfl rfl rfl (Nat.le_of_ble_eq_true rfl) lx_draft ?_
  refine z_aload_n (j := 1) dX7_takeDraft_18 rfl rfl ?_
  refine z_getf (i := 0) (ci := 7) (k := 5) (v := .ref (q 24)) dX7_takeDraft_19 m_X7_takeDraft_f44 in_X7_takeDraft_X7 rfl (by decide) rfl (by omega) rfl rfl ?_
  refine z_iconst dX7_takeDraft_22 ?_
  refine z_putfN (i := 24) (ci := 1) (k := 2) (cX cI cJ cZ cR q d w (va_up xi 18 0) xa) dX7_takeDraft_23 nwf_X7_132 in_X7_takeDraft_X1 rfl (by decide) rfl (by omega) rfl tyX1_ok nmX1 rfl rfl rfl (Nat.le_of_ble_eq_true rfl) lx_rcount ?_
  refine z_aload_n (j := 1) dX7_takeDraft_26 rfl rfl ?_
  refine z_getf (i := 0) (ci := 7) (k := 6) (v := .ref (q 27)) dX7_takeDraft_27 m_X7_takeDraft_f51 in_X7_takeDraft_X7 rfl (by decide) rfl (by omega) rfl rfl ?_
  refine z_callVv (i := 27) (ci := 4) (As := []) (rest := []) (c_X4_forget  hq ) dX7_takeDraft_30 gX7_takeDraft_X4_forget rfl cd_X4_forget ⟨Nat.le_of_ble_eq_true rfl, Nat.le_of_ble_eq_true rfl⟩ rfl rfl (by omega) rfl rfl rfl (Nat.le_of_ble_eq_true rfl) ⟨Nat.zero_le _, Nat.zero_le _⟩ (fun g_30 hp_30 => ?_)
  obtain ⟨xi_30, he_30, rfl⟩ := hp_30
  exact z_vret dX7_takeDraft_33 ⟨_, _, _, (⟨rfl, rfl, by rw [he_30]⟩), rfl⟩
theorem m_X7_river_f63 : Cond.fieldLink RX7 63 "PoleBehind" "lastFault" "I" ∈ wsX7_river := List.mem_of_getElem? (i := 1) rfl
theorem in_X7_river_X7 : ∀ w ∈ wsX70, w ∈ wsX7_river := fun _ h => List.mem_cons_of_mem _ (List.mem_append_left _ (List.mem_append_left _ (List.mem_append_left _ (List.mem_append_left _ (List.mem_append_left _ (List.mem_append_right _ h))))))
theorem cd_X7_rowOf : yX7_rowOf.cls = RX7 ∧ yX7_rowOf.cls ≠ "java/lang/invoke/MethodHandle" ∧ yX7_rowOf.cls ≠ "java/lang/invoke/VarHandle" ∧ (parseMethodDescriptor yX7_rowOf.desc).map (fun d => d.parameters.length) = some 1 := ⟨rfl, by decide +kernel, by decide +kernel, by decide +kernel⟩
theorem cd_X7_isLane : yX7_isLane.cls ≠ "java/lang/invoke/MethodHandle" ∧ yX7_isLane.cls ≠ "java/lang/invoke/VarHandle" ∧ (parseMethodDescriptor yX7_isLane.desc).map (fun d => d.parameters.length) = some 1 := ⟨by decide +kernel, by decide +kernel, by decide +kernel⟩
theorem cd_X3_faultAs : yX3_faultAs.cls = RX3 ∧ yX3_faultAs.cls ≠ "java/lang/invoke/MethodHandle" ∧ yX3_faultAs.cls ≠ "java/lang/invoke/VarHandle" ∧ (parseMethodDescriptor yX3_faultAs.desc).map (fun d => d.parameters.length) = some 1 := ⟨rfl, by decide +kernel, by decide +kernel, by decide +kernel⟩
theorem cd_X3_hasStretch : yX3_hasStretch.cls = RX3 ∧ yX3_hasStretch.cls ≠ "java/lang/invoke/MethodHandle" ∧ yX3_hasStretch.cls ≠ "java/lang/invoke/VarHandle" ∧ (parseMethodDescriptor yX3_hasStretch.desc).map (fun d => d.parameters.length) = some 2 := ⟨rfl, by decide +kernel, by decide +kernel, by decide +kernel⟩
theorem m_X7_river_f30 : Cond.fieldLink RX7 30 "PoleBehind" "reader" "LPoleBehind$TextReader;" ∈ wsX7_river := List.mem_of_getElem? (i := 2) rfl
theorem m_X7_river_f24 : Cond.fieldLink RX7 24 "PoleBehind" "draft" "LPoleBehind$River;" ∈ wsX7_river := List.mem_of_getElem? (i := 3) rfl
theorem cd_X5_firstFault : yX5_firstFault.cls = RX5 ∧ yX5_firstFault.cls ≠ "java/lang/invoke/MethodHandle" ∧ yX5_firstFault.cls ≠ "java/lang/invoke/VarHandle" ∧ (parseMethodDescriptor yX5_firstFault.desc).map (fun d => d.parameters.length) = some 4 := ⟨rfl, by decide +kernel, by decide +kernel, by decide +kernel⟩
theorem cd_X7_takeDraft : yX7_takeDraft.cls = RX7 ∧ yX7_takeDraft.cls ≠ "java/lang/invoke/MethodHandle" ∧ yX7_takeDraft.cls ≠ "java/lang/invoke/VarHandle" ∧ (parseMethodDescriptor yX7_takeDraft.desc).map (fun d => d.parameters.length) = some 0 := ⟨rfl, by decide +kernel, by decide +kernel, by decide +kernel⟩
theorem m_X7_river_f20 : Cond.fieldLink RX7 20 "PoleBehind" "water" "LPoleBehind$River;" ∈ wsX7_river := List.mem_of_getElem? (i := 4) rfl
theorem in_X7_river_X2 : ∀ w ∈ wsX20, w ∈ wsX7_river := fun _ h => List.mem_cons_of_mem _ (List.mem_append_left _ (List.mem_append_left _ (List.mem_append_left _ (List.mem_append_left _ (List.mem_append_right _ h)))))
set_option maxHeartbeats 400000 in
set_option maxRecDepth 100000 in
theorem c_X7_river {l : Launch} {D : va_G} {cI cJ cZ cR : ClassId} {q : Nat → Nat} {w d : Nat} {xi : Nat → Int} {xa : Nat → Nat → Int} (hq : qOk 31 q) {z ln i nn : Int} (hO : XOk w d xi xa) (hz : -2147483648 ≤ z ∧ z < 2147483648) (hl : -2147483648 ≤ ln ∧ ln < 2147483648) (hi : -2147483648 ≤ i ∧ i < 2147483648) (hnn : -2147483648 ≤ nn ∧ nn < 2147483648) : Cti l D vwCl (tysC cI cJ cZ cR) 31 q yX7_river wsX7_river ({ frames := 5, cells := 0, slots := 0, locals := 114 } : Room) [.ref (q 0), .int (iI z), .int (iI ln), .int (iI i), .int (iI nn)] (cX cI cJ cZ cR q w d xi xa) (fun (r : Int32) (g : Nat → va_E) => ∃ (e : Int) (w' : Nat) (d' : Nat) (xi' : Nat → Int) (xa' : Nat → Nat → Int), (spRiver (vX w xi xa) z ln i nn e (vX w' xi' xa') ∧ XOk w' d' xi' xa') ∧ r = iI e ∧ g = (cX cI cJ cZ cR q w' d' xi' xa')) := by
  refine Cti.of (cc := cX7_river) (nL := 8) (own := RX7) (ret := (some .int)) (by decide) rfl rfl hq (Nat.le_of_ble_eq_true rfl) (fun p e s m args below meth c => ?_)
  obtain ⟨⟨hw, hd⟩, hRows, hRvs, hn2, ⟨hRd, hRd2⟩, hJ, ⟨hst, hTab⟩, hfa, hsg⟩ := id hO
  have hRw := hRvs w hw
  obtain ⟨hN, hP, hK, hM, hD, hB⟩ := id hRw
  have hnA : rN (aR (vX w xi xa)) = xi (10 + w) := rfl
  have hO0 := XOk_fa (f := 0) hO (by omega)
  have hu : ∀ k, k ≠ 1 → va_up xi 1 0 k = xi k := fun k h => up_n h
  have hu1 : ∀ v : Int, va_up (va_up xi 1 0) 1 v = va_up xi 1 v := fun v => bx_uu _ _ _ _
  have hRows0 := hO0.2.1
  refine z_aload_n (j := 0) dX7_river_0 rfl rfl ?_
  refine z_iconst dX7_river_1 ?_
  refine z_putf (i := 0) (ci := 7) (k := 9) (cX cI cJ cZ cR q w d (va_up xi 1 0) xa) dX7_river_2 m_X7_river_f63 in_X7_river_X7 rfl (by decide) rfl (by omega) rfl tyX7_ok nmX7 rfl rfl rfl (Nat.le_of_ble_eq_true rfl) lx_fault ?_
  refine z_aload_n (j := 0) dX7_river_5 rfl rfl ?_
  refine z_iload_n (j := 1) dX7_river_6 rfl rfl ?_
  refine z_callVq (i := 0) (ci := 7) (As := [.int (iI z)]) (rest := []) (c_X7_rowOf  hq (by omega)) dX7_river_7 gX7_river_X7_rowOf rfl cd_X7_rowOf ⟨Nat.le_of_ble_eq_true rfl, Nat.le_of_ble_eq_true rfl⟩ rfl rfl (by omega) rfl rfl rfl (Nat.le_of_ble_eq_true rfl) ⟨Nat.zero_le _, Nat.zero_le _⟩ (fun r_7 g_7 hp_7 => ?_)
  obtain ⟨rfl, rfl⟩ := hp_7
  by_cases k_7 : 0 ≤ z ∧ z < 4
  · rw [if_pos k_7]
    refine z_asref ?_
    refine z_astore [(5, .ref (q (2 + z.toNat))), (0, .ref (q 0)), (1, .int (iI z)), (2, .int (iI ln)), (3, .int (iI i)), (4, .int (iI nn))] dX7_river_10 (by decide) rfl ?_
    refine z_aload (j := 0) dX7_river_12 rfl ?_
    refine z_ifnonnull (tgt := 19) dX7_river_14 (by decide) ?_
    refine z_iload_n (j := 3) dX7_river_19 rfl rfl ?_
    refine z_callSi (As := [.int (iI ln)]) (rest := []) (c_X7_isLane  hq (by omega)) dX7_river_20 gX7_river_X7_isLane rfl cd_X7_isLane ⟨Nat.le_of_ble_eq_true rfl, Nat.le_of_ble_eq_true rfl⟩ rfl rfl rfl (Nat.le_of_ble_eq_true rfl) ⟨Nat.zero_le _, Nat.zero_le _⟩ (fun r_20 g_20 hp_20 => ?_)
    obtain ⟨⟨h_20, rfl⟩ | ⟨h_20, rfl⟩, rfl⟩ := hp_20
    · refine z_if_ne (tgt := 29) dX7_river_23 (by decide) (by decide) (fun _ => ?_) (fun h => absurd h (by decide))
      refine z_aload (j := 0) dX7_river_29 rfl ?_
      refine z_iload_n (j := 3) dX7_river_31 rfl rfl ?_
      refine z_callVi (i := 2 + z.toNat) (ci := 3) (As := [.int (iI ln)]) (rest := []) (c_X3_faultAs  hq (by omega) (hRows0 _ (by omega)).1 (by omega)) dX7_river_32 gX7_river_X3_faultAs rfl cd_X3_faultAs ⟨Nat.le_of_ble_eq_true rfl, Nat.le_of_ble_eq_true rfl⟩ rfl rfl (by omega) (cX_row (by omega)) rfl rfl (Nat.le_of_ble_eq_true rfl) ⟨Nat.zero_le _, Nat.zero_le _⟩ (fun r_32 g_32 hp_32 => ?_)
      obtain ⟨⟨e_32, he_32, rfl⟩, rfl⟩ := hp_32
      rw [hu _ (by omega)] at he_32
      have hl_32 := lane_rng he_32
      refine z_istore [(6, .int (iI e_32)), (5, .ref (q (2 + z.toNat))), (0, .ref (q 0)), (1, .int (iI z)), (2, .int (iI ln)), (3, .int (iI i)), (4, .int (iI nn))] dX7_river_35 (by decide) rfl ?_
      refine z_iload (j := 0) dX7_river_37 rfl ?_
      refine z_if_eq (tgt := 49) dX7_river_39 (by decide) (by omega) (fun c_39 => ?_) (fun c_39 => ?_)
      · refine z_iload (j := 6) dX7_river_49 rfl ?_
        refine z_if_ge (tgt := 60) dX7_river_51 (by decide) (by omega) (fun c_51 => ?_) (fun c_51 => ?_)
        · refine z_aload (j := 1) dX7_river_60 rfl ?_
          refine z_iload_n (j := 5) dX7_river_62 rfl rfl ?_
          refine z_iload (j := 6) dX7_river_63 rfl ?_
          refine z_callVi (i := 2 + z.toNat) (ci := 3) (As := [.int (iI i), .int (iI nn)]) (rest := []) (c_X3_hasStretch  hq (by omega) (hRows0 _ (by omega)).1 (by omega) (by omega)) dX7_river_65 gX7_river_X3_hasStretch rfl cd_X3_hasStretch ⟨Nat.le_of_ble_eq_true rfl, Nat.le_of_ble_eq_true rfl⟩ rfl rfl (by omega) (cX_row (by omega)) rfl rfl (Nat.le_of_ble_eq_true rfl) ⟨Nat.zero_le _, Nat.zero_le _⟩ (fun r_65 g_65 hp_65 => ?_)
          obtain ⟨⟨h_65, rfl⟩ | ⟨h_65, rfl⟩, rfl⟩ := hp_65
          · refine z_if_ne (tgt := 77) dX7_river_68 (by decide) (by decide) (fun _ => ?_) (fun h => absurd h (by decide))
            refine z_aload_n (j := 2) dX7_river_77 rfl rfl ?_
            refine z_getf (i := 0) (ci := 7) (k := 3) (v := .ref (q 20)) dX7_river_78 m_X7_river_f30 in_X7_river_X7 rfl (by decide) rfl (by omega) rfl rfl ?_
            refine z_aload (j := 1) dX7_river_81 rfl ?_
            refine z_iload_n (j := 5) dX7_river_83 rfl rfl ?_
            refine z_iload (j := 6) dX7_river_84 rfl ?_
            refine z_aload_n (j := 2) dX7_river_86 rfl rfl ?_
            refine z_getf (i := 0) (ci := 7) (k := 2) (v := .ref (q (10 + d))) dX7_river_87 m_X7_river_f24 in_X7_river_X7 rfl (by decide) rfl (by omega) rfl rfl ?_
            refine z_callVi (i := 20) (ci := 5) (As := [.ref (q (2 + z.toNat)), .int (iI i), .int (iI nn), .ref (q (10 + d))]) (rest := []) (c_X5_firstFault  hq (show z.toNat < 4 by omega) (by omega) (hRows0 _ (by omega)).1 (hO0.2.2.1 d (by omega)) (by omega)) dX7_river_90 gX7_river_X5_firstFault rfl cd_X5_firstFault ⟨Nat.le_of_ble_eq_true rfl, Nat.le_of_ble_eq_true rfl⟩ rfl rfl (by omega) rfl rfl rfl (Nat.le_of_ble_eq_true rfl) ⟨Nat.zero_le _, Nat.zero_le _⟩ (fun r_90 g_90 hp_90 => ?_)
            obtain ⟨e_90, xi_90, xa_90, he_90, rfl, rfl⟩ := hp_90
            have hmr := mend_rng he_90.1
            have hoc := XOk_dr hO0 he_90.2.1 he_90.2.2
            have hvf := vX_Fr hw hd he_90.2.1
            have hfit : 0 ≤ i ∧ i + nn ≤ xi (6 + z.toNat) := by
              rw [hu _ (by omega)] at h_65
              omega
            obtain ⟨τ, hτ, hτ9⟩ := mend_sim msE_0 (mend_congr (h := actG (vX w xi xa) z.toNat i) (fun k hk => (actG_x (n := nn) (by omega) hfit (by omega)).symm) he_90.1)
            have hcin := chkC_in (w := w) (xa := xa) (show z.toNat < 4 by omega) he_32 c_39 (by omega) hfit
            refine z_istore [(7, .int (iI e_90)), (6, .int (iI e_32)), (5, .ref (q (2 + z.toNat))), (0, .ref (q 0)), (1, .int (iI z)), (2, .int (iI ln)), (3, .int (iI i)), (4, .int (iI nn))] dX7_river_93 (by decide) rfl ?_
            refine z_iload (j := 0) dX7_river_95 rfl ?_
            refine z_bipush dX7_river_97 (by decide) ?_
            refine z_icmp_eq (tgt := 108) dX7_river_99 (by decide) (by omega) (by decide) (fun c_99 => ?_) (fun c_99 => ?_)
            · refine z_aload_n (j := 3) dX7_river_108 rfl rfl ?_
              refine z_callVv (i := 0) (ci := 7) (As := []) (rest := []) (c_X7_takeDraft  hq (by omega)) dX7_river_109 gX7_river_X7_takeDraft rfl cd_X7_takeDraft ⟨Nat.le_of_ble_eq_true rfl, Nat.le_of_ble_eq_true rfl⟩ rfl rfl (by omega) rfl rfl rfl (Nat.le_of_ble_eq_true rfl) ⟨Nat.zero_le _, Nat.zero_le _⟩ (fun g_109 hp_109 => ?_)
              obtain ⟨w_109, d_109, xi_109, he_109, rfl⟩ := hp_109
              refine z_aload_n (j := 3) dX7_river_112 rfl rfl ?_
              refine z_getf (i := 0) (ci := 7) (k := 1) (v := .ref (q (10 + w_109))) dX7_river_113 m_X7_river_f20 in_X7_river_X7 rfl (by decide) rfl (by omega) rfl rfl ?_
              refine z_getfN (i := 10 + w_109) (ci := 2) (k := 4) (v := .int (iI (xi_109 (10 + w_109)))) dX7_river_116 nwf_X7_93 in_X7_river_X2 rfl (by decide) rfl (by omega) (cX_rv (by omega)) rfl ?_
              exact z_iret dX7_river_119 ⟨_, _, _, _, _, (by
      have hv := msE_rv (hτ9 c_99)
      have h2 := mend_two he_90.1 c_99
      obtain ⟨hw9, hd9, hx9⟩ := he_109
      rw [hw9, hd9, hx9]
      unfold spRiver; rw [if_neg (by omega), if_neg (by omega), hcin, if_neg (show ¬ ((0 : Int) ≠ 0) by omega)]
      refine ⟨⟨e_90, τ, hτ, Or.inr ⟨c_99, ?_, ?_⟩⟩, XOk_take hoc h2⟩
      · rw [hv.2.2, up_n (by omega), up_n (by omega)]
      · rw [hv.1, hv.2.1]
        exact vX_take hw hd he_90.2.1), rfl, rfl⟩
            · refine z_bipush dX7_river_102 (by decide) ?_
              refine z_iload (j := 0) dX7_river_104 rfl ?_
              refine z_isub dX7_river_106 ?_
              exact z_iret dX7_river_107 ⟨_, _, _, _, _, (by
      unfold spRiver; rw [if_neg (by omega), if_neg (by omega), hcin, if_neg (show ¬ ((0 : Int) ≠ 0) by omega)]
      exact ⟨⟨e_90, τ, hτ, Or.inl ⟨c_99, rfl, hvf⟩⟩, hoc⟩), rfl, rfl⟩
          · refine z_if_ne (tgt := 77) dX7_river_68 (by decide) (by decide) (fun h => absurd h (by decide)) (fun _ => ?_)
            refine z_aload_n (j := 2) dX7_river_71 rfl rfl ?_
            refine z_iconst dX7_river_72 ?_
            refine z_callVi (i := 0) (ci := 7) (As := [.int (iI 3)]) (rest := []) (c_X7_failed  hq (by omega)) dX7_river_73 gX7_river_X7_failed rfl cd_X7_failed ⟨Nat.le_of_ble_eq_true rfl, Nat.le_of_ble_eq_true rfl⟩ rfl rfl (by omega) rfl rfl rfl (Nat.le_of_ble_eq_true rfl) ⟨Nat.zero_le _, Nat.zero_le _⟩ (fun r_73 g_73 hp_73 => ?_)
            obtain ⟨e_73, xi_73, he_73, rfl, rfl⟩ := hp_73
            exact z_iret dX7_river_76 ⟨_, _, _, _, _, (by
      rw [hu _ (by omega)] at h_65
      have hc := chkC_out (w := w) (xa := xa) (i := i) (show z.toNat < 4 by omega) he_32 c_39 (show 0 ≤ nn by omega) (by omega)
      unfold spRiver; rw [if_neg (by omega), if_neg (by omega), hc, if_pos (show (-13 : Int) ≠ 0 by omega), he_73.2, hu1]
      exact ⟨⟨he_73.1, vX_fa hw⟩, XOk_fa hO (by omega)⟩), rfl, rfl⟩
        · refine z_aload_n (j := 2) dX7_river_54 rfl rfl ?_
          refine z_iconst dX7_river_55 ?_
          refine z_callVi (i := 0) (ci := 7) (As := [.int (iI 4)]) (rest := []) (c_X7_failed  hq (by omega)) dX7_river_56 gX7_river_X7_failed rfl cd_X7_failed ⟨Nat.le_of_ble_eq_true rfl, Nat.le_of_ble_eq_true rfl⟩ rfl rfl (by omega) rfl rfl rfl (Nat.le_of_ble_eq_true rfl) ⟨Nat.zero_le _, Nat.zero_le _⟩ (fun r_56 g_56 hp_56 => ?_)
          obtain ⟨e_56, xi_56, he_56, rfl, rfl⟩ := hp_56
          exact z_iret dX7_river_59 ⟨_, _, _, _, _, (by
      have hc := chkC_neg (w := w) (xa := xa) (i := i) (show z.toNat < 4 by omega) he_32 c_39 (show nn < 0 by omega)
      unfold spRiver; rw [if_neg (by omega), if_neg (by omega), hc, if_pos (show (-14 : Int) ≠ 0 by omega), he_56.2, hu1]
      exact ⟨⟨he_56.1, vX_fa hw⟩, XOk_fa hO (by omega)⟩), rfl, rfl⟩
      · refine z_aload_n (j := 2) dX7_river_42 rfl rfl ?_
        refine z_iload (j := 0) dX7_river_43 rfl ?_
        refine z_callVi (i := 0) (ci := 7) (As := [.int (iI e_32)]) (rest := []) (c_X7_failed  hq (by omega)) dX7_river_45 gX7_river_X7_failed rfl cd_X7_failed ⟨Nat.le_of_ble_eq_true rfl, Nat.le_of_ble_eq_true rfl⟩ rfl rfl (by omega) rfl rfl rfl (Nat.le_of_ble_eq_true rfl) ⟨Nat.zero_le _, Nat.zero_le _⟩ (fun r_45 g_45 hp_45 => ?_)
        obtain ⟨e_45, xi_45, he_45, rfl, rfl⟩ := hp_45
        exact z_iret dX7_river_48 ⟨_, _, _, _, _, (by
      have hc := chkC_lane (w := w) (xa := xa) (i := i) (n := nn) (show z.toNat < 4 by omega) he_32 c_39
      unfold spRiver; rw [if_neg (by omega), if_neg (by omega), hc, if_pos (show -10 - e_32 ≠ 0 by omega), he_45.2, hu1]
      exact ⟨⟨he_45.1, vX_fa hw⟩, XOk_fa hO (by omega)⟩), rfl, rfl⟩
    · refine z_if_ne (tgt := 29) dX7_river_23 (by decide) (by decide) (fun h => absurd h (by decide)) (fun _ => ?_)
      refine z_bipush dX7_river_26 (by decide) ?_
      exact z_iret dX7_river_28 ⟨_, _, _, _, _, (by unfold spRiver; rw [if_neg (by omega), if_pos (by omega)]; exact ⟨⟨rfl, vX_fa hw⟩, hO0⟩), rfl, rfl⟩
  · rw [if_neg k_7]
    refine z_asnull ?_
    refine z_astoreN [(5, .null), (0, .ref (q 0)), (1, .int (iI z)), (2, .int (iI ln)), (3, .int (iI i)), (4, .int (iI nn))] dX7_river_10 (by decide) rfl ?_
    refine z_aloadN (j := 0) dX7_river_12 rfl ?_
    refine z_ifnonnullN dX7_river_14 ?_
    refine z_iconst dX7_river_17 ?_
    exact z_iret dX7_river_18 ⟨_, _, _, _, _, (by unfold spRiver; rw [if_pos (by omega)]; exact ⟨⟨rfl, vX_fa hw⟩, hO0⟩), rfl, rfl⟩
theorem m_X7_carryOut_f37 : Cond.fieldLink RX7 37 "PoleBehind" "journey" "LPoleBehind$Journey;" ∈ wsX7_carryOut := List.mem_of_getElem? (i := 1) rfl
theorem in_X7_carryOut_X7 : ∀ w ∈ wsX70, w ∈ wsX7_carryOut := fun _ h => List.mem_cons_of_mem _ (List.mem_append_left _ (List.mem_append_left _ (List.mem_append_left _ (List.mem_append_right _ h))))
theorem cd_X0_readActs : yX0_readActs.cls = RX0 ∧ yX0_readActs.cls ≠ "java/lang/invoke/MethodHandle" ∧ yX0_readActs.cls ≠ "java/lang/invoke/VarHandle" ∧ (parseMethodDescriptor yX0_readActs.desc).map (fun d => d.parameters.length) = some 3 := ⟨rfl, by decide +kernel, by decide +kernel, by decide +kernel⟩
theorem m_X7_carryOut_f20 : Cond.fieldLink RX7 20 "PoleBehind" "water" "LPoleBehind$River;" ∈ wsX7_carryOut := List.mem_of_getElem? (i := 2) rfl
theorem cd_X0_go : yX0_go.cls = RX0 ∧ yX0_go.cls ≠ "java/lang/invoke/MethodHandle" ∧ yX0_go.cls ≠ "java/lang/invoke/VarHandle" ∧ (parseMethodDescriptor yX0_go.desc).map (fun d => d.parameters.length) = some 1 := ⟨rfl, by decide +kernel, by decide +kernel, by decide +kernel⟩
set_option maxHeartbeats 400000 in
set_option maxRecDepth 100000 in
theorem c_X7_carryOut {l : Launch} {D : va_G} {cI cJ cZ cR : ClassId} {q : Nat → Nat} {w d : Nat} {xi : Nat → Int} {xa : Nat → Nat → Int} (hq : qOk 31 q) {j : Nat} {ln i nn : Int} (hO : XOk w d xi xa) (hj : j < 4) (hl : 0 ≤ ln ∧ ln ≤ 2) (hi : -2147483648 ≤ i ∧ i < 2147483648) (hnn : 0 ≤ nn ∧ nn ≤ 18) (hf : xi 1 = 0) : Cti l D vwCl (tysC cI cJ cZ cR) 31 q yX7_carryOut wsX7_carryOut ({ frames := 4, cells := 0, slots := 0, locals := 93 } : Room) [.ref (q 0), .ref (q (2 + j)), .int (iI ln), .int (iI i), .int (iI nn)] (cX cI cJ cZ cR q w d xi xa) (fun (r : Int32) (g : Nat → va_E) => ∃ (e : Int) (xi' : Nat → Int) (xa' : Nat → Nat → Int), (e = (chkActs (vX w xi xa) j ln i nn).1 ∧ vX w xi' xa' = sFa (vX w xi xa) (chkActs (vX w xi xa) j ln i nn).2 ∧ XOk w d xi' xa' ∧ (e = 0 → JF (vX w xi xa) j i nn xi' xa') ∧ (∀ k, (2 ≤ k ∧ k ≤ 14) ∨ k = 18 ∨ k = 19 → xi' k = xi k) ∧ ∀ k, k ≠ 12 → k ≠ 13 → xa' k = xa k) ∧ r = iI e ∧ g = (cX cI cJ cZ cR q w d xi' xa')) := by
  refine Cti.of (cc := cX7_carryOut) (nL := 6) (own := RX7) (ret := (some .int)) (by decide) rfl rfl hq (Nat.le_of_ble_eq_true rfl) (fun p e s m args below meth c => ?_)
  obtain ⟨⟨hw, hd⟩, hRows, hRvs, hn2, ⟨hRd, hRd2⟩, hJ, ⟨hst, hTab⟩, hfa, hsg⟩ := id hO
  have hRw := hRvs w hw
  obtain ⟨hN, hP, hK, hM, hD, hB⟩ := id hRw
  have hnA : rN (aR (vX w xi xa)) = xi (10 + w) := rfl
  have hO0 := XOk_fa (f := 0) hO (by omega)
  have hRj := (hRows j hj).1
  obtain ⟨hJ1, hJ2, hJ3⟩ := id hJ
  refine z_aload_n (j := 1) dX7_carryOut_0 rfl rfl ?_
  refine z_iload_n (j := 2) dX7_carryOut_1 rfl rfl ?_
  refine z_callVi (i := 2 + j) (ci := 3) (As := [.int (iI ln)]) (rest := []) (c_X3_faultAs  hq hj hRj (by omega)) dX7_carryOut_2 gX7_carryOut_X3_faultAs rfl cd_X3_faultAs ⟨Nat.le_of_ble_eq_true rfl, Nat.le_of_ble_eq_true rfl⟩ rfl rfl (by omega) (cX_row hj) rfl rfl (Nat.le_of_ble_eq_true rfl) ⟨Nat.zero_le _, Nat.zero_le _⟩ (fun r_2 g_2 hp_2 => ?_)
  obtain ⟨⟨e_2, he_2, rfl⟩, rfl⟩ := hp_2
  have hl_2 := lane_rng he_2
  refine z_istore [(5, .int (iI e_2)), (0, .ref (q 0)), (1, .ref (q (2 + j))), (2, .int (iI ln)), (3, .int (iI i)), (4, .int (iI nn))] dX7_carryOut_5 (by decide) rfl ?_
  refine z_iload (j := 0) dX7_carryOut_7 rfl ?_
  refine z_if_eq (tgt := 19) dX7_carryOut_9 (by decide) (by omega) (fun c_9 => ?_) (fun c_9 => ?_)
  · refine z_aload_n (j := 2) dX7_carryOut_19 rfl rfl ?_
    refine z_iload_n (j := 4) dX7_carryOut_20 rfl rfl ?_
    refine z_iload (j := 5) dX7_carryOut_21 rfl ?_
    refine z_callVi (i := 2 + j) (ci := 3) (As := [.int (iI i), .int (iI nn)]) (rest := []) (c_X3_hasStretch  hq hj hRj (by omega) (by omega)) dX7_carryOut_23 gX7_carryOut_X3_hasStretch rfl cd_X3_hasStretch ⟨Nat.le_of_ble_eq_true rfl, Nat.le_of_ble_eq_true rfl⟩ rfl rfl (by omega) (cX_row hj) rfl rfl (Nat.le_of_ble_eq_true rfl) ⟨Nat.zero_le _, Nat.zero_le _⟩ (fun r_23 g_23 hp_23 => ?_)
    obtain ⟨⟨h_23, rfl⟩ | ⟨h_23, rfl⟩, rfl⟩ := hp_23
    · refine z_if_ne (tgt := 35) dX7_carryOut_26 (by decide) (by decide) (fun _ => ?_) (fun h => absurd h (by decide))
      refine z_aload_n (j := 1) dX7_carryOut_35 rfl rfl ?_
      refine z_getf (i := 0) (ci := 7) (k := 4) (v := .ref (q 21)) dX7_carryOut_36 m_X7_carryOut_f37 in_X7_carryOut_X7 rfl (by decide) rfl (by omega) rfl rfl ?_
      refine z_aload_n (j := 2) dX7_carryOut_39 rfl rfl ?_
      refine z_iload_n (j := 4) dX7_carryOut_40 rfl rfl ?_
      refine z_iload (j := 5) dX7_carryOut_41 rfl ?_
      refine z_callVi (i := 21) (ci := 0) (As := [.ref (q (2 + j)), .int (iI i), .int (iI nn)]) (rest := []) (c_X0_readActs  hq hj hRj (by omega) hJ2) dX7_carryOut_43 gX7_carryOut_X0_readActs rfl cd_X0_readActs ⟨Nat.le_of_ble_eq_true rfl, Nat.le_of_ble_eq_true rfl⟩ rfl rfl (by omega) rfl rfl rfl (Nat.le_of_ble_eq_true rfl) ⟨Nat.zero_le _, Nat.zero_le _⟩ (fun r_43 g_43 hp_43 => ?_)
      obtain ⟨xi_43, xa_43, ⟨h_43, rfl⟩ | ⟨h_43, rfl⟩, rfl⟩ := hp_43
      · refine z_if_ne (tgt := 52) dX7_carryOut_46 (by decide) (by decide) (fun _ => ?_) (fun h => absurd h (by decide))
        refine z_aload_n (j := 1) dX7_carryOut_52 rfl rfl ?_
        refine z_getf (i := 0) (ci := 7) (k := 4) (v := .ref (q 21)) dX7_carryOut_53 m_X7_carryOut_f37 in_X7_carryOut_X7 rfl (by decide) rfl (by omega) rfl rfl ?_
        refine z_aload_n (j := 1) dX7_carryOut_56 rfl rfl ?_
        refine z_getf (i := 0) (ci := 7) (k := 1) (v := .ref (q (10 + w))) dX7_carryOut_57 m_X7_carryOut_f20 in_X7_carryOut_X7 rfl (by decide) rfl (by omega) rfl rfl ?_
        refine z_callVv (i := 21) (ci := 0) (As := [.ref (q (10 + w))]) (rest := []) (c_X0_go  hq hw (RvOk_eq (by rw [h_43.2.1, up_n (by omega)]) (by rw [h_43.2.1, up_n (by omega)]) (h_43.2.2.1 _ (by omega)) (h_43.2.2.1 _ (by omega)) (h_43.2.2.1 _ (by omega)) (h_43.2.2.1 _ (by omega)) hRw) (by rw [h_43.2.1, up_s]; omega) h_43.2.2.2.1 (by rw [h_43.2.2.1 13 (by decide)]; exact hJ3)) dX7_carryOut_60 gX7_carryOut_X0_go rfl cd_X0_go ⟨Nat.le_of_ble_eq_true rfl, Nat.le_of_ble_eq_true rfl⟩ rfl rfl (by omega) rfl rfl rfl (Nat.le_of_ble_eq_true rfl) ⟨Nat.zero_le _, Nat.zero_le _⟩ (fun g_60 hp_60 => ?_)
        obtain ⟨xi_60, xa_60, he_60, rfl⟩ := hp_60
        refine z_iconst dX7_carryOut_63 ?_
        exact z_iret dX7_carryOut_64 ⟨_, _, _, (by
      obtain ⟨a0, g1, g2, g3, g4⟩ := h_43
      obtain ⟨b16, b17, bx, ba, bc, bs⟩ := he_60
      have hfit : 0 ≤ i ∧ i + nn ≤ xi (6 + j) := by omega
      have hc := chkC_in (w := w) (xa := xa) (i := i) hj he_2 c_9 (show 0 ≤ nn by omega) hfit
      rw [chkA_ok (by rw [hc]) (fun k hk => by rw [actG_x hj hfit hk]; exact a0 k hk)]
      have hxx : ∀ k, k ≠ 15 → k ≠ 16 → k ≠ 17 → xi_60 k = xi k := fun k h1 h2 h3 => (bx k h2 h3).trans (by rw [g1]; exact up_n h1)
      have haa : ∀ k, k ≠ 12 → k ≠ 13 → xa_60 k = xa k := fun k h1 h2 => (ba k h2).trans (g2 k h1)
      have g0 : xi_60 1 = 0 := (hxx 1 (by decide) (by decide) (by decide)).trans hf
      have h15 : xi_43 15 = nn := by rw [g1, up_s]
      refine ⟨rfl, ?_, XOk_fr hO (fun k hk => hxx k (by omega) (by omega) (by omega)) (fun k hk => haa k (by omega) (by omega)) ⟨by rw [bx 15 (by decide) (by decide), h15]; omega, by rw [ba 12 (by decide)]; exact g3, bc⟩ (by rw [g0]; omega), fun _ => ?_, fun k hk => hxx k (by omega) (by omega) (by omega), haa⟩
      · rw [vX_id (xi := xi) (xa := xa) hw (hxx 0 (by decide) (by decide) (by decide)) (fun k hk => hxx k (by omega) (by omega) (by omega)) (fun k hk => haa k (by omega) (by omega)), g0]
      · exact JF_of h15 (by omega) (rvX_eq (by rw [g1, up_n (by omega)]) (g2 _ (by omega)) (g2 _ (by omega)) (g2 _ (by omega)) (g2 _ (by omega))) (by rw [g1, up_n (by omega)]) (fun k hk => by rw [g4 k hk, actG_x hj hfit hk]) b16 b17 (bx 15 (by decide) (by decide)) (ba 12 (by decide))), rfl, rfl⟩
      · refine z_if_ne (tgt := 52) dX7_carryOut_46 (by decide) (by decide) (fun h => absurd h (by decide)) (fun _ => ?_)
        refine z_bipush dX7_carryOut_49 (by decide) ?_
        exact z_iret dX7_carryOut_51 ⟨_, _, _, (by
      obtain ⟨⟨kb, hb1, hb2⟩, g1, g2, g3⟩ := h_43
      have hfit : 0 ≤ i ∧ i + nn ≤ xi (6 + j) := by omega
      have hc := chkC_in (w := w) (xa := xa) (i := i) hj he_2 c_9 (show 0 ≤ nn by omega) hfit
      rw [chkA_bad (by rw [hc]) ⟨kb, hb1, by rw [actG_x hj hfit hb1]; exact hb2⟩]
      have g0 : xi_43 1 = 0 := by rw [g1, up_n (by decide)]; exact hf
      refine ⟨rfl, ?_, XOk_fr hO (fun k hk => by rw [g1]; exact up_n (by omega)) (fun k hk => g2 k (by omega)) ⟨by rw [g1, up_s]; omega, g3, by rw [g2 13 (by decide)]; exact hJ3⟩ (by rw [g0]; omega), fun q => absurd q (by decide), fun k hk => by rw [g1]; exact up_n (by omega), fun k h1 h2 => g2 k h1⟩
      rw [vX_id (xi := xi) (xa := xa) hw (by rw [g1, up_n (by decide)]) (fun k hk => by rw [g1]; exact up_n (by omega)) (fun k hk => g2 k (by omega)), g0]), rfl, rfl⟩
    · refine z_if_ne (tgt := 35) dX7_carryOut_26 (by decide) (by decide) (fun h => absurd h (by decide)) (fun _ => ?_)
      refine z_aload_n (j := 1) dX7_carryOut_29 rfl rfl ?_
      refine z_iconst dX7_carryOut_30 ?_
      refine z_callVi (i := 0) (ci := 7) (As := [.int (iI 3)]) (rest := []) (c_X7_failed  hq (by omega)) dX7_carryOut_31 gX7_carryOut_X7_failed rfl cd_X7_failed ⟨Nat.le_of_ble_eq_true rfl, Nat.le_of_ble_eq_true rfl⟩ rfl rfl (by omega) rfl rfl rfl (Nat.le_of_ble_eq_true rfl) ⟨Nat.zero_le _, Nat.zero_le _⟩ (fun r_31 g_31 hp_31 => ?_)
      obtain ⟨e_31, xi_31, he_31, rfl, rfl⟩ := hp_31
      exact z_iret dX7_carryOut_34 ⟨_, _, _, (by
      have hc := chkC_out (w := w) (xa := xa) (i := i) hj he_2 c_9 (show 0 ≤ nn by omega) (by omega)
      rw [chkA_cells (by rw [hc]; show (-13 : Int) ≠ 0; omega), hc, he_31.2]
      exact ⟨he_31.1, vX_fa hw, XOk_fa hO (by omega), fun q => absurd q (by omega), fun k hk => up_n (by omega), fun _ _ _ => rfl⟩), rfl, rfl⟩
  · refine z_aload_n (j := 1) dX7_carryOut_12 rfl rfl ?_
    refine z_iload (j := 0) dX7_carryOut_13 rfl ?_
    refine z_callVi (i := 0) (ci := 7) (As := [.int (iI e_2)]) (rest := []) (c_X7_failed  hq (by omega)) dX7_carryOut_15 gX7_carryOut_X7_failed rfl cd_X7_failed ⟨Nat.le_of_ble_eq_true rfl, Nat.le_of_ble_eq_true rfl⟩ rfl rfl (by omega) rfl rfl rfl (Nat.le_of_ble_eq_true rfl) ⟨Nat.zero_le _, Nat.zero_le _⟩ (fun r_15 g_15 hp_15 => ?_)
    obtain ⟨e_15, xi_15, he_15, rfl, rfl⟩ := hp_15
    exact z_iret dX7_carryOut_18 ⟨_, _, _, (by
      have hc := chkC_lane (w := w) (xa := xa) (i := i) (n := nn) hj he_2 c_9
      rw [chkA_cells (by rw [hc]; show -10 - e_2 ≠ 0; omega), hc, he_15.2]
      exact ⟨he_15.1, vX_fa hw, XOk_fa hO (by omega), fun q => absurd q (by omega), fun k hk => up_n (by omega), fun _ _ _ => rfl⟩), rfl, rfl⟩
