theorem m_X7_put_f63 : Cond.fieldLink RX7 63 "PoleBehind" "lastFault" "I" ∈ wsX7_put := List.mem_of_getElem? (i := 1) rfl
theorem in_X7_put_X7 : ∀ w ∈ wsX70, w ∈ wsX7_put := fun _ h => List.mem_cons_of_mem _ (List.mem_append_left _ (List.mem_append_right _ h))
theorem cd_X3_become : yX3_become.cls = RX3 ∧ yX3_become.cls ≠ "java/lang/invoke/MethodHandle" ∧ yX3_become.cls ≠ "java/lang/invoke/VarHandle" ∧ (parseMethodDescriptor yX3_become.desc).map (fun d => d.parameters.length) = some 2 := ⟨rfl, by decide +kernel, by decide +kernel, by decide +kernel⟩
set_option maxHeartbeats 400000 in
set_option maxRecDepth 100000 in
theorem c_X7_put {l : Launch} {D : va_G} {cI cJ cZ cR : ClassId} {q : Nat → Nat} {w d : Nat} {xi : Nat → Int} {xa : Nat → Nat → Int} (hq : qOk 31 q) {z ii v : Int} (hO : XOk w d xi xa) (hz : -2147483648 ≤ z ∧ z < 2147483648) (hi : -2147483648 ≤ ii ∧ ii < 2147483648) (hv : -2147483648 ≤ v ∧ v < 2147483648) : Cti l D vwCl (tysC cI cJ cZ cR) 31 q yX7_put wsX7_put ({ frames := 2, cells := 0, slots := 0, locals := 43 } : Room) [.ref (q 0), .int (iI z), .int (iI ii), .int (iI v)] (cX cI cJ cZ cR q w d xi xa) (fun (r : Int32) (g : Nat → va_E) => ∃ (e : Int) (xi' : Nat → Int) (xa' : Nat → Nat → Int), (spPut (vX w xi xa) z ii v e (vX w xi' xa') ∧ XOk w d xi' xa') ∧ r = iI e ∧ g = (cX cI cJ cZ cR q w d xi' xa')) := by
  refine Cti.of (cc := cX7_put) (nL := 5) (own := RX7) (ret := (some .int)) (by decide) rfl rfl hq (Nat.le_of_ble_eq_true rfl) (fun p e s m args below meth c => ?_)
  obtain ⟨⟨hw, hd⟩, hRows, hRvs, hn2, ⟨hRd, hRd2⟩, hJ, ⟨hst, hTab⟩, hfa, hsg⟩ := id hO
  have hRw := hRvs w hw
  obtain ⟨hN, hP, hK, hM, hD, hB⟩ := id hRw
  have hnA : rN (aR (vX w xi xa)) = xi (10 + w) := rfl
  have hO0 := XOk_fa (f := 0) hO (by omega)
  have hu : ∀ k, k ≠ 1 → va_up xi 1 0 k = xi k := fun k h => up_n h
  have hu1 : ∀ v : Int, va_up (va_up xi 1 0) 1 v = va_up xi 1 v := fun v => bx_uu _ _ _ _
  have hRows0 := hO0.2.1
  have hu2 : ∀ t : Nat, va_up xi 1 0 (2 + t) = xi (2 + t) := fun t => hu _ (by omega)
  have hu6 : ∀ t : Nat, va_up xi 1 0 (6 + t) = xi (6 + t) := fun t => hu _ (by omega)
  refine z_aload_n (j := 0) dX7_put_0 rfl rfl ?_
  refine z_iconst dX7_put_1 ?_
  refine z_putf (i := 0) (ci := 7) (k := 9) (cX cI cJ cZ cR q w d (va_up xi 1 0) xa) dX7_put_2 m_X7_put_f63 in_X7_put_X7 rfl (by decide) rfl (by omega) rfl tyX7_ok nmX7 rfl rfl rfl (Nat.le_of_ble_eq_true rfl) lx_fault ?_
  refine z_aload_n (j := 0) dX7_put_5 rfl rfl ?_
  refine z_iload_n (j := 1) dX7_put_6 rfl rfl ?_
  refine z_callVq (i := 0) (ci := 7) (As := [.int (iI z)]) (rest := []) (c_X7_rowOf  hq (by omega)) dX7_put_7 gX7_put_X7_rowOf rfl cd_X7_rowOf ⟨Nat.le_of_ble_eq_true rfl, Nat.le_of_ble_eq_true rfl⟩ rfl rfl (by omega) rfl rfl rfl (Nat.le_of_ble_eq_true rfl) ⟨Nat.zero_le _, Nat.zero_le _⟩ (fun r_7 g_7 hp_7 => ?_)
  obtain ⟨rfl, rfl⟩ := hp_7
  by_cases k_7 : 0 ≤ z ∧ z < 4
  · rw [if_pos k_7]
    refine z_asref ?_
    refine z_astore [(4, .ref (q (2 + z.toNat))), (0, .ref (q 0)), (1, .int (iI z)), (2, .int (iI ii)), (3, .int (iI v))] dX7_put_10 (by decide) rfl ?_
    refine z_aload (j := 0) dX7_put_12 rfl ?_
    refine z_ifnonnull (tgt := 19) dX7_put_14 (by decide) ?_
    refine z_aload (j := 0) dX7_put_19 rfl ?_
    refine z_callVi (i := 2 + z.toNat) (ci := 3) (As := []) (rest := []) (c_X3_isNothing  hq (by omega) (hRows0 _ (by omega)).1) dX7_put_21 gX7_put_X3_isNothing rfl cd_X3_isNothing ⟨Nat.le_of_ble_eq_true rfl, Nat.le_of_ble_eq_true rfl⟩ rfl rfl (by omega) (cX_row (by omega)) rfl rfl (Nat.le_of_ble_eq_true rfl) ⟨Nat.zero_le _, Nat.zero_le _⟩ (fun r_21 g_21 hp_21 => ?_)
    obtain ⟨⟨h_21, rfl⟩ | ⟨h_21, rfl⟩, rfl⟩ := hp_21
    · refine z_if_eq (tgt := 33) dX7_put_24 (by decide) (by decide) (fun h => absurd h (by decide)) (fun _ => ?_)
      refine z_aload_n (j := 1) dX7_put_27 rfl rfl ?_
      refine z_iconst dX7_put_28 ?_
      refine z_callVi (i := 0) (ci := 7) (As := [.int (iI 1)]) (rest := []) (c_X7_failed  hq (by omega)) dX7_put_29 gX7_put_X7_failed rfl cd_X7_failed ⟨Nat.le_of_ble_eq_true rfl, Nat.le_of_ble_eq_true rfl⟩ rfl rfl (by omega) rfl rfl rfl (Nat.le_of_ble_eq_true rfl) ⟨Nat.zero_le _, Nat.zero_le _⟩ (fun r_29 g_29 hp_29 => ?_)
      obtain ⟨e_29, xi_29, he_29, rfl, rfl⟩ := hp_29
      exact z_iret dX7_put_32 ⟨_, _, _, (by
      rw [hu2] at h_21
      unfold spPut; rw [if_neg (by omega), vlan (by omega), if_pos h_21, he_29.2, hu1]; exact ⟨⟨he_29.1, vX_fa hw⟩, XOk_fa hO (by omega)⟩), rfl, rfl⟩
    · refine z_if_eq (tgt := 33) dX7_put_24 (by decide) (by decide) (fun _ => ?_) (fun h => absurd h (by decide))
      refine z_aload (j := 0) dX7_put_33 rfl ?_
      refine z_iload_n (j := 3) dX7_put_35 rfl rfl ?_
      refine z_callVi (i := 2 + z.toNat) (ci := 3) (As := [.int (iI ii)]) (rest := []) (c_X3_has  hq (by omega) (hRows0 _ (by omega)).1 (by omega)) dX7_put_36 gX7_put_X3_has rfl cd_X3_has ⟨Nat.le_of_ble_eq_true rfl, Nat.le_of_ble_eq_true rfl⟩ rfl rfl (by omega) (cX_row (by omega)) rfl rfl (Nat.le_of_ble_eq_true rfl) ⟨Nat.zero_le _, Nat.zero_le _⟩ (fun r_36 g_36 hp_36 => ?_)
      obtain ⟨⟨h_36, rfl⟩ | ⟨h_36, rfl⟩, rfl⟩ := hp_36
      · refine z_if_ne (tgt := 48) dX7_put_39 (by decide) (by decide) (fun _ => ?_) (fun h => absurd h (by decide))
        refine z_aload (j := 0) dX7_put_48 rfl ?_
        refine z_iload_n (j := 3) dX7_put_50 rfl rfl ?_
        refine z_iload_n (j := 4) dX7_put_51 rfl rfl ?_
        refine z_callVv (i := 2 + z.toNat) (ci := 3) (As := [.int (iI ii), .int (iI v)]) (rest := []) (c_X3_become  hq (by omega) (hRows0 _ (by omega)).1 (by omega) (by omega)) dX7_put_52 gX7_put_X3_become rfl cd_X3_become ⟨Nat.le_of_ble_eq_true rfl, Nat.le_of_ble_eq_true rfl⟩ rfl rfl (by omega) (cX_row (by omega)) rfl rfl (Nat.le_of_ble_eq_true rfl) ⟨Nat.zero_le _, Nat.zero_le _⟩ (fun g_52 hp_52 => ?_)
        obtain ⟨xa_52, he_52, rfl⟩ := hp_52
        refine z_iconst dX7_put_55 ?_
        exact z_iret dX7_put_56 ⟨_, _, _, (by
      have hin : 0 ≤ ii ∧ ii < xi (6 + z.toNat) := by rw [hu6] at h_36; exact h_36
      rw [if_pos h_36, hu2] at he_52
      rw [hu2] at h_21
      have hrow := (hRows z.toNat (by omega)).1
      unfold spPut; rw [if_neg (by omega), vlan (by omega), if_neg h_21, vlen (by omega), if_neg (not_not_intro hin)]
      refine ⟨⟨rfl, ?_⟩, XOk_sh hO0 (j := z.toNat) (by omega) (fun _ _ _ _ => rfl) (fun k hk => by rw [he_52, up_n hk]) ⟨⟨(hRows0 z.toNat (by omega)).1.1, (hRows0 z.toNat (by omega)).1.2.1, ?_⟩, (hRows0 z.toNat (by omega)).2⟩ (by rw [up_s]; omega)⟩
      · rw [vX_sh (xi := xi) (xa := xa) (j := z.toNat) (l := xi (2 + z.toNat)) (n := xi (6 + z.toNat)) (g := va_up (nrm (xi (6 + z.toNat)) (xa z.toNat)) ii.toNat (cutL (xi (2 + z.toNat)) v)) hw (by omega) (fun k h1 h2 h3 => up_n h1) (fun k hk => by rw [he_52, up_n hk]) (hu2 _) (hu6 _) (by rw [he_52, up_s]; exact nrm_up (by omega)), up_s, ← lanX_in (xi := xi) (show z.toNat < 4 by omega), ← lenX_in (xi := xi) (show z.toNat < 4 by omega), up_id, up_id]
        show sSh _ (lanX xi) (lenX xi) _ = sSh _ (lanX xi) (lenX xi) (va_up (numX xi xa) z.toNat (va_up (numX xi xa z.toNat) ii.toNat _))
        rw [numX_in (show z.toNat < 4 by omega), lenX_in (show z.toNat < 4 by omega)]
      · intro k
        rw [he_52, up_s]
        by_cases hk : k = ii.toNat
        · rw [hk, up_s]; exact cutL_rng _ hv
        · rw [up_n hk]; exact hrow.2.2 k), rfl, rfl⟩
      · refine z_if_ne (tgt := 48) dX7_put_39 (by decide) (by decide) (fun h => absurd h (by decide)) (fun _ => ?_)
        refine z_aload_n (j := 1) dX7_put_42 rfl rfl ?_
        refine z_iconst dX7_put_43 ?_
        refine z_callVi (i := 0) (ci := 7) (As := [.int (iI 3)]) (rest := []) (c_X7_failed  hq (by omega)) dX7_put_44 gX7_put_X7_failed rfl cd_X7_failed ⟨Nat.le_of_ble_eq_true rfl, Nat.le_of_ble_eq_true rfl⟩ rfl rfl (by omega) rfl rfl rfl (Nat.le_of_ble_eq_true rfl) ⟨Nat.zero_le _, Nat.zero_le _⟩ (fun r_44 g_44 hp_44 => ?_)
        obtain ⟨e_44, xi_44, he_44, rfl, rfl⟩ := hp_44
        exact z_iret dX7_put_47 ⟨_, _, _, (by
      rw [hu2] at h_21
      rw [hu6] at h_36
      unfold spPut; rw [if_neg (by omega), vlan (by omega), if_neg h_21, vlen (by omega), if_pos h_36, he_44.2, hu1]; exact ⟨⟨he_44.1, vX_fa hw⟩, XOk_fa hO (by omega)⟩), rfl, rfl⟩
  · rw [if_neg k_7]
    refine z_asnull ?_
    refine z_astoreN [(4, .null), (0, .ref (q 0)), (1, .int (iI z)), (2, .int (iI ii)), (3, .int (iI v))] dX7_put_10 (by decide) rfl ?_
    refine z_aloadN (j := 0) dX7_put_12 rfl ?_
    refine z_ifnonnullN dX7_put_14 ?_
    refine z_iconst dX7_put_17 ?_
    exact z_iret dX7_put_18 ⟨_, _, _, (by unfold spPut; rw [if_pos (by omega)]; exact ⟨⟨rfl, vX_fa hw⟩, hO0⟩), rfl, rfl⟩
theorem m_X7_cell_f63 : Cond.fieldLink RX7 63 "PoleBehind" "lastFault" "I" ∈ wsX7_cell := List.mem_of_getElem? (i := 1) rfl
theorem in_X7_cell_X7 : ∀ w ∈ wsX70, w ∈ wsX7_cell := fun _ h => List.mem_cons_of_mem _ (List.mem_append_left _ (List.mem_append_right _ h))
theorem m_X7_cell_C152 : Cond.constantLong RX7 152 (lI (-9223372036854775808)) ∈ wsX7_cell := List.mem_of_getElem? (i := 2) (by decide +kernel)
set_option maxHeartbeats 400000 in
set_option maxRecDepth 100000 in
theorem c_X7_cell {l : Launch} {D : va_G} {cI cJ cZ cR : ClassId} {q : Nat → Nat} {w d : Nat} {xi : Nat → Int} {xa : Nat → Nat → Int} (hq : qOk 31 q) {z ii ln : Int} (hO : XOk w d xi xa) (hz : -2147483648 ≤ z ∧ z < 2147483648) (hi : -2147483648 ≤ ii ∧ ii < 2147483648) (hl : -2147483648 ≤ ln ∧ ln < 2147483648) : Ctl l D vwCl (tysC cI cJ cZ cR) 31 q yX7_cell wsX7_cell ({ frames := 2, cells := 0, slots := 0, locals := 42 } : Room) [.ref (q 0), .int (iI z), .int (iI ii), .int (iI ln)] (cX cI cJ cZ cR q w d xi xa) (fun (r : Int64) (g : Nat → va_E) => ∃ (e : Int) (xi' : Nat → Int), (spCell (vX w xi xa) z ii ln e (vX w xi' xa) ∧ XOk w d xi' xa) ∧ r = lI e ∧ g = (cX cI cJ cZ cR q w d xi' xa)) := by
  refine Ctl.of (cc := cX7_cell) (nL := 6) (own := RX7) (ret := (some .long)) (by decide) rfl rfl hq (Nat.le_of_ble_eq_true rfl) (fun p e s m args below meth c => ?_)
  obtain ⟨⟨hw, hd⟩, hRows, hRvs, hn2, ⟨hRd, hRd2⟩, hJ, ⟨hst, hTab⟩, hfa, hsg⟩ := id hO
  have hRw := hRvs w hw
  obtain ⟨hN, hP, hK, hM, hD, hB⟩ := id hRw
  have hnA : rN (aR (vX w xi xa)) = xi (10 + w) := rfl
  have hO0 := XOk_fa (f := 0) hO (by omega)
  have hu : ∀ k, k ≠ 1 → va_up xi 1 0 k = xi k := fun k h => up_n h
  have hu1 : ∀ v : Int, va_up (va_up xi 1 0) 1 v = va_up xi 1 v := fun v => bx_uu _ _ _ _
  have hRows0 := hO0.2.1
  have hu2 : ∀ t : Nat, va_up xi 1 0 (2 + t) = xi (2 + t) := fun t => hu _ (by omega)
  have hu6 : ∀ t : Nat, va_up xi 1 0 (6 + t) = xi (6 + t) := fun t => hu _ (by omega)
  refine z_aload_n (j := 0) dX7_cell_0 rfl rfl ?_
  refine z_iconst dX7_cell_1 ?_
  refine z_putf (i := 0) (ci := 7) (k := 9) (cX cI cJ cZ cR q w d (va_up xi 1 0) xa) dX7_cell_2 m_X7_cell_f63 in_X7_cell_X7 rfl (by decide) rfl (by omega) rfl tyX7_ok nmX7 rfl rfl rfl (Nat.le_of_ble_eq_true rfl) lx_fault ?_
  refine z_aload_n (j := 0) dX7_cell_5 rfl rfl ?_
  refine z_iload_n (j := 1) dX7_cell_6 rfl rfl ?_
  refine z_callVq (i := 0) (ci := 7) (As := [.int (iI z)]) (rest := []) (c_X7_rowOf  hq (by omega)) dX7_cell_7 gX7_cell_X7_rowOf rfl cd_X7_rowOf ⟨Nat.le_of_ble_eq_true rfl, Nat.le_of_ble_eq_true rfl⟩ rfl rfl (by omega) rfl rfl rfl (Nat.le_of_ble_eq_true rfl) ⟨Nat.zero_le _, Nat.zero_le _⟩ (fun r_7 g_7 hp_7 => ?_)
  obtain ⟨rfl, rfl⟩ := hp_7
  by_cases k_7 : 0 ≤ z ∧ z < 4
  · rw [if_pos k_7]
    refine z_asref ?_
    refine z_astore [(4, .ref (q (2 + z.toNat))), (0, .ref (q 0)), (1, .int (iI z)), (2, .int (iI ii)), (3, .int (iI ln))] dX7_cell_10 (by decide) rfl ?_
    refine z_aload (j := 0) dX7_cell_12 rfl ?_
    refine z_ifnull dX7_cell_14 ?_
    refine z_iload_n (j := 4) dX7_cell_17 rfl rfl ?_
    refine z_callSi (As := [.int (iI ln)]) (rest := []) (c_X7_isLane  hq (by omega)) dX7_cell_18 gX7_cell_X7_isLane rfl cd_X7_isLane ⟨Nat.le_of_ble_eq_true rfl, Nat.le_of_ble_eq_true rfl⟩ rfl rfl rfl (Nat.le_of_ble_eq_true rfl) ⟨Nat.zero_le _, Nat.zero_le _⟩ (fun r_18 g_18 hp_18 => ?_)
    obtain ⟨⟨h_18, rfl⟩ | ⟨h_18, rfl⟩, rfl⟩ := hp_18
    · refine z_if_ne (tgt := 28) dX7_cell_21 (by decide) (by decide) (fun _ => ?_) (fun h => absurd h (by decide))
      refine z_aload (j := 0) dX7_cell_28 rfl ?_
      refine z_iload_n (j := 4) dX7_cell_30 rfl rfl ?_
      refine z_callVi (i := 2 + z.toNat) (ci := 3) (As := [.int (iI ln)]) (rest := []) (c_X3_faultAs  hq (by omega) (hRows0 _ (by omega)).1 (by omega)) dX7_cell_31 gX7_cell_X3_faultAs rfl cd_X3_faultAs ⟨Nat.le_of_ble_eq_true rfl, Nat.le_of_ble_eq_true rfl⟩ rfl rfl (by omega) (cX_row (by omega)) rfl rfl (Nat.le_of_ble_eq_true rfl) ⟨Nat.zero_le _, Nat.zero_le _⟩ (fun r_31 g_31 hp_31 => ?_)
      obtain ⟨⟨e_31, he_31, rfl⟩, rfl⟩ := hp_31
      rw [hu2] at he_31
      have hl_31 := lane_rng he_31
      have hrow := (hRows z.toNat (by omega)).1
      refine z_istore [(5, .int (iI e_31)), (4, .ref (q (2 + z.toNat))), (0, .ref (q 0)), (1, .int (iI z)), (2, .int (iI ii)), (3, .int (iI ln))] dX7_cell_34 (by decide) rfl ?_
      refine z_iload (j := 0) dX7_cell_36 rfl ?_
      refine z_if_ne (tgt := 53) dX7_cell_38 (by decide) (by omega) (fun c_38 => ?_) (fun c_38 => ?_)
      · refine z_iload (j := 0) dX7_cell_53 rfl ?_
        refine z_if_eq (tgt := 68) dX7_cell_55 (by decide) (by omega) (fun c_55 => ?_) (fun c_55 => ?_)
        · refine z_aload (j := 1) dX7_cell_68 rfl ?_
          refine z_iload_n (j := 4) dX7_cell_70 rfl rfl ?_
          refine z_callVi (i := 2 + z.toNat) (ci := 3) (As := [.int (iI ii)]) (rest := []) (c_X3_at  hq (by omega) (hRows0 _ (by omega)).1 (by omega)) dX7_cell_71 gX7_cell_X3_at rfl cd_X3_at ⟨Nat.le_of_ble_eq_true rfl, Nat.le_of_ble_eq_true rfl⟩ rfl rfl (by omega) (cX_row (by omega)) rfl rfl (Nat.le_of_ble_eq_true rfl) ⟨Nat.zero_le _, Nat.zero_le _⟩ (fun r_71 g_71 hp_71 => ?_)
          obtain ⟨⟨e_71, he_71, rfl⟩, rfl⟩ := hp_71
          rw [hu6] at he_71
          have hat := at_rng he_71 (hrow.2.2 ii.toNat) (by decide)
          refine z_i2l dX7_cell_74 (by omega) ?_
          exact z_lret dX7_cell_75 ⟨_, _, (by
      first
        | exact absurd c_55 c_38
        | (have q := lane_eq he_31 c_38
           rw [hu6] at h_44
           rw [if_pos h_44] at he_71
           unfold spCell; rw [if_neg (by omega), vlan (by omega), if_neg q.1, if_neg (not_not_intro q.2), vlen (by omega), if_neg (not_not_intro h_44), vnum (by omega) (by omega)]
           exact ⟨⟨he_71, vX_fa hw⟩, hO0⟩)), rfl, rfl⟩
        · refine z_aload_n (j := 2) dX7_cell_58 rfl rfl ?_
          refine z_iload (j := 0) dX7_cell_59 rfl ?_
          refine z_putf (i := 0) (ci := 7) (k := 9) (cX cI cJ cZ cR q w d (va_up (va_up xi 1 0) 1 e_31) xa) dX7_cell_61 m_X7_cell_f63 in_X7_cell_X7 rfl (by decide) rfl (by omega) rfl tyX7_ok nmX7 rfl rfl rfl (Nat.le_of_ble_eq_true rfl) lx_fault ?_
          refine z_ldc2 dX7_cell_64 m_X7_cell_C152 ?_
          exact z_lret dX7_cell_67 ⟨_, _, (by
      unfold spCell; rw [if_neg (by omega), vlan (by omega)]
      first
        | exact absurd c_38 c_55
        | (by_cases q1 : xi (2 + z.toNat) = -1
           · have q2 := he_31
             rw [if_pos q1] at q2
             rw [if_pos q1, q2, hu1]
             exact ⟨⟨rfl, vX_fa hw⟩, XOk_fa hO (by omega)⟩
           · have q2 := he_31
             rw [if_neg q1] at q2
             by_cases q3 : xi (2 + z.toNat) = ln
             · rw [if_pos q3] at q2
               exact absurd q2 c_38
             · rw [if_neg q3] at q2
               rw [if_neg q1, if_pos q3, q2, hu1]
               exact ⟨⟨rfl, vX_fa hw⟩, XOk_fa hO (by omega)⟩)
        | (have q := lane_eq he_31 c_38
           rw [hu6] at h_44
           rw [if_neg q.1, if_neg (not_not_intro q.2), vlen (by omega), if_pos h_44, hu1]
           exact ⟨⟨rfl, vX_fa hw⟩, XOk_fa hO (by omega)⟩)), rfl, rfl⟩
      · refine z_aload (j := 1) dX7_cell_41 rfl ?_
        refine z_iload_n (j := 4) dX7_cell_43 rfl rfl ?_
        refine z_callVi (i := 2 + z.toNat) (ci := 3) (As := [.int (iI ii)]) (rest := []) (c_X3_has  hq (by omega) (hRows0 _ (by omega)).1 (by omega)) dX7_cell_44 gX7_cell_X3_has rfl cd_X3_has ⟨Nat.le_of_ble_eq_true rfl, Nat.le_of_ble_eq_true rfl⟩ rfl rfl (by omega) (cX_row (by omega)) rfl rfl (Nat.le_of_ble_eq_true rfl) ⟨Nat.zero_le _, Nat.zero_le _⟩ (fun r_44 g_44 hp_44 => ?_)
        obtain ⟨⟨h_44, rfl⟩ | ⟨h_44, rfl⟩, rfl⟩ := hp_44
        · refine z_if_ne (tgt := 53) dX7_cell_47 (by decide) (by decide) (fun _ => ?_) (fun h => absurd h (by decide))
          refine z_iload (j := 0) dX7_cell_53 rfl ?_
          refine z_if_eq (tgt := 68) dX7_cell_55 (by decide) (by omega) (fun c_55 => ?_) (fun c_55 => ?_)
          · refine z_aload (j := 1) dX7_cell_68 rfl ?_
            refine z_iload_n (j := 4) dX7_cell_70 rfl rfl ?_
            refine z_callVi (i := 2 + z.toNat) (ci := 3) (As := [.int (iI ii)]) (rest := []) (c_X3_at  hq (by omega) (hRows0 _ (by omega)).1 (by omega)) dX7_cell_71 gX7_cell_X3_at rfl cd_X3_at ⟨Nat.le_of_ble_eq_true rfl, Nat.le_of_ble_eq_true rfl⟩ rfl rfl (by omega) (cX_row (by omega)) rfl rfl (Nat.le_of_ble_eq_true rfl) ⟨Nat.zero_le _, Nat.zero_le _⟩ (fun r_71 g_71 hp_71 => ?_)
            obtain ⟨⟨e_71, he_71, rfl⟩, rfl⟩ := hp_71
            rw [hu6] at he_71
            have hat := at_rng he_71 (hrow.2.2 ii.toNat) (by decide)
            refine z_i2l dX7_cell_74 (by omega) ?_
            exact z_lret dX7_cell_75 ⟨_, _, (by
      first
        | exact absurd c_55 c_38
        | (have q := lane_eq he_31 c_38
           rw [hu6] at h_44
           rw [if_pos h_44] at he_71
           unfold spCell; rw [if_neg (by omega), vlan (by omega), if_neg q.1, if_neg (not_not_intro q.2), vlen (by omega), if_neg (not_not_intro h_44), vnum (by omega) (by omega)]
           exact ⟨⟨he_71, vX_fa hw⟩, hO0⟩)), rfl, rfl⟩
          · refine z_aload_n (j := 2) dX7_cell_58 rfl rfl ?_
            refine z_iload (j := 0) dX7_cell_59 rfl ?_
            refine z_putf (i := 0) (ci := 7) (k := 9) (cX cI cJ cZ cR q w d (va_up (va_up xi 1 0) 1 e_31) xa) dX7_cell_61 m_X7_cell_f63 in_X7_cell_X7 rfl (by decide) rfl (by omega) rfl tyX7_ok nmX7 rfl rfl rfl (Nat.le_of_ble_eq_true rfl) lx_fault ?_
            refine z_ldc2 dX7_cell_64 m_X7_cell_C152 ?_
            exact z_lret dX7_cell_67 ⟨_, _, (by
      unfold spCell; rw [if_neg (by omega), vlan (by omega)]
      first
        | exact absurd c_38 c_55
        | (by_cases q1 : xi (2 + z.toNat) = -1
           · have q2 := he_31
             rw [if_pos q1] at q2
             rw [if_pos q1, q2, hu1]
             exact ⟨⟨rfl, vX_fa hw⟩, XOk_fa hO (by omega)⟩
           · have q2 := he_31
             rw [if_neg q1] at q2
             by_cases q3 : xi (2 + z.toNat) = ln
             · rw [if_pos q3] at q2
               exact absurd q2 c_38
             · rw [if_neg q3] at q2
               rw [if_neg q1, if_pos q3, q2, hu1]
               exact ⟨⟨rfl, vX_fa hw⟩, XOk_fa hO (by omega)⟩)
        | (have q := lane_eq he_31 c_38
           rw [hu6] at h_44
           rw [if_neg q.1, if_neg (not_not_intro q.2), vlen (by omega), if_pos h_44, hu1]
           exact ⟨⟨rfl, vX_fa hw⟩, XOk_fa hO (by omega)⟩)), rfl, rfl⟩
        · refine z_if_ne (tgt := 53) dX7_cell_47 (by decide) (by decide) (fun h => absurd h (by decide)) (fun _ => ?_)
          refine z_iconst dX7_cell_50 ?_
          refine z_istore [(5, .int (iI 3)), (4, .ref (q (2 + z.toNat))), (0, .ref (q 0)), (1, .int (iI z)), (2, .int (iI ii)), (3, .int (iI ln))] dX7_cell_51 (by decide) rfl ?_
          refine z_iload (j := 0) dX7_cell_53 rfl ?_
          refine z_if_eq (tgt := 68) dX7_cell_55 (by decide) (by decide) (fun h => absurd h (by decide)) (fun _ => ?_)
          refine z_aload_n (j := 2) dX7_cell_58 rfl rfl ?_
          refine z_iload (j := 0) dX7_cell_59 rfl ?_
          refine z_putf (i := 0) (ci := 7) (k := 9) (cX cI cJ cZ cR q w d (va_up (va_up xi 1 0) 1 3) xa) dX7_cell_61 m_X7_cell_f63 in_X7_cell_X7 rfl (by decide) rfl (by omega) rfl tyX7_ok nmX7 rfl rfl rfl (Nat.le_of_ble_eq_true rfl) lx_fault ?_
          refine z_ldc2 dX7_cell_64 m_X7_cell_C152 ?_
          exact z_lret dX7_cell_67 ⟨_, _, (by
      unfold spCell; rw [if_neg (by omega), vlan (by omega)]
      first
        | exact absurd c_38 c_55
        | (by_cases q1 : xi (2 + z.toNat) = -1
           · have q2 := he_31
             rw [if_pos q1] at q2
             rw [if_pos q1, q2, hu1]
             exact ⟨⟨rfl, vX_fa hw⟩, XOk_fa hO (by omega)⟩
           · have q2 := he_31
             rw [if_neg q1] at q2
             by_cases q3 : xi (2 + z.toNat) = ln
             · rw [if_pos q3] at q2
               exact absurd q2 c_38
             · rw [if_neg q3] at q2
               rw [if_neg q1, if_pos q3, q2, hu1]
               exact ⟨⟨rfl, vX_fa hw⟩, XOk_fa hO (by omega)⟩)
        | (have q := lane_eq he_31 c_38
           rw [hu6] at h_44
           rw [if_neg q.1, if_neg (not_not_intro q.2), vlen (by omega), if_pos h_44, hu1]
           exact ⟨⟨rfl, vX_fa hw⟩, XOk_fa hO (by omega)⟩)), rfl, rfl⟩
    · refine z_if_ne (tgt := 28) dX7_cell_21 (by decide) (by decide) (fun h => absurd h (by decide)) (fun _ => ?_)
      refine z_ldc2 dX7_cell_24 m_X7_cell_C152 ?_
      exact z_lret dX7_cell_27 ⟨_, _, (by unfold spCell; rw [if_pos (by omega)]; exact ⟨⟨rfl, vX_fa hw⟩, hO0⟩), rfl, rfl⟩
  · rw [if_neg k_7]
    refine z_asnull ?_
    refine z_astoreN [(4, .null), (0, .ref (q 0)), (1, .int (iI z)), (2, .int (iI ii)), (3, .int (iI ln))] dX7_cell_10 (by decide) rfl ?_
    refine z_aloadN (j := 0) dX7_cell_12 rfl ?_
    refine z_ifnullN (tgt := 24) dX7_cell_14 (by decide) ?_
    refine z_ldc2 dX7_cell_24 m_X7_cell_C152 ?_
    exact z_lret dX7_cell_27 ⟨_, _, (by unfold spCell; rw [if_pos (by omega)]; exact ⟨⟨rfl, vX_fa hw⟩, hO0⟩), rfl, rfl⟩
theorem m_X7_copy_f63 : Cond.fieldLink RX7 63 "PoleBehind" "lastFault" "I" ∈ wsX7_copy := List.mem_of_getElem? (i := 1) rfl
theorem in_X7_copy_X7 : ∀ w ∈ wsX70, w ∈ wsX7_copy := fun _ h => List.mem_cons_of_mem _ (List.mem_append_left _ (List.mem_append_right _ h))
theorem nwf_X7_237 : Cond.fieldLinkNest RX7 237 "PoleBehind$Row" "lane" "I" "PoleBehind" ∈ NWl := List.mem_of_getElem? (i := 15) rfl
theorem in_X7_copy_X3 : ∀ w ∈ wsX30, w ∈ wsX7_copy := fun _ h => List.mem_cons_of_mem _ (List.mem_append_right _ h)
theorem nwf_X7_240 : Cond.fieldLinkNest RX7 240 "PoleBehind$Row" "numbers" "[I" "PoleBehind" ∈ NWl := List.mem_of_getElem? (i := 14) rfl
theorem m_X7_copy_acl : Cond.methodLink RX7 244 arraycopyName ∈ wsX7_copy := List.mem_of_getElem? (i := 2) rfl
theorem m_X7_copy_acn : Cond.native arraycopyName ∈ wsX7_copy := List.mem_of_getElem? (i := 3) rfl
theorem m_X7_copy_acs : Cond.static arraycopyName ∈ wsX7_copy := List.mem_of_getElem? (i := 4) rfl
theorem m_X7_copy_aci : Cond.initialized "java/lang/System" ∈ wsX7_copy := List.mem_of_getElem? (i := 5) rfl
set_option maxHeartbeats 400000 in
set_option maxRecDepth 100000 in
theorem c_X7_copy {l : Launch} {D : va_G} {cI cJ cZ cR : ClassId} {q : Nat → Nat} {w d : Nat} {xi : Nat → Int} {xa : Nat → Nat → Int} (hq : qOk 31 q) {z ii oo jj nn : Int} (hO : XOk w d xi xa) (hz : -2147483648 ≤ z ∧ z < 2147483648) (hi : -2147483648 ≤ ii ∧ ii < 2147483648) (ho : -2147483648 ≤ oo ∧ oo < 2147483648) (hj2 : -2147483648 ≤ jj ∧ jj < 2147483648) (hnn : -2147483648 ≤ nn ∧ nn < 2147483648) : Cti l D vwCl (tysC cI cJ cZ cR) 31 q yX7_copy wsX7_copy ({ frames := 1, cells := 0, slots := 0, locals := 40 } : Room) [.ref (q 0), .int (iI z), .int (iI ii), .int (iI oo), .int (iI jj), .int (iI nn)] (cX cI cJ cZ cR q w d xi xa) (fun (r : Int32) (g : Nat → va_E) => ∃ (e : Int) (xi' : Nat → Int) (xa' : Nat → Nat → Int), (spCopy (vX w xi xa) z ii oo jj nn e (vX w xi' xa') ∧ XOk w d xi' xa') ∧ r = iI e ∧ g = (cX cI cJ cZ cR q w d xi' xa')) := by
  refine Cti.of (cc := cX7_copy) (nL := 8) (own := RX7) (ret := (some .int)) (by decide) rfl rfl hq (Nat.le_of_ble_eq_true rfl) (fun p e s m args below meth c => ?_)
  obtain ⟨⟨hw, hd⟩, hRows, hRvs, hn2, ⟨hRd, hRd2⟩, hJ, ⟨hst, hTab⟩, hfa, hsg⟩ := id hO
  have hRw := hRvs w hw
  obtain ⟨hN, hP, hK, hM, hD, hB⟩ := id hRw
  have hnA : rN (aR (vX w xi xa)) = xi (10 + w) := rfl
  have hO0 := XOk_fa (f := 0) hO (by omega)
  have hu : ∀ k, k ≠ 1 → va_up xi 1 0 k = xi k := fun k h => up_n h
  have hu1 : ∀ v : Int, va_up (va_up xi 1 0) 1 v = va_up xi 1 v := fun v => bx_uu _ _ _ _
  have hRows0 := hO0.2.1
  have hu2 : ∀ t : Nat, va_up xi 1 0 (2 + t) = xi (2 + t) := fun t => hu _ (by omega)
  have hu6 : ∀ t : Nat, va_up xi 1 0 (6 + t) = xi (6 + t) := fun t => hu _ (by omega)
  have hln : ∀ t, t < 4 → xi (6 + t) ≤ 60 := fun t h => (hRows t h).1.2.1.2
  refine z_aload_n (j := 0) dX7_copy_0 rfl rfl ?_
  refine z_iconst dX7_copy_1 ?_
  refine z_putf (i := 0) (ci := 7) (k := 9) (cX cI cJ cZ cR q w d (va_up xi 1 0) xa) dX7_copy_2 m_X7_copy_f63 in_X7_copy_X7 rfl (by decide) rfl (by omega) rfl tyX7_ok nmX7 rfl rfl rfl (Nat.le_of_ble_eq_true rfl) lx_fault ?_
  refine z_aload_n (j := 0) dX7_copy_5 rfl rfl ?_
  refine z_iload_n (j := 1) dX7_copy_6 rfl rfl ?_
  refine z_callVq (i := 0) (ci := 7) (As := [.int (iI z)]) (rest := []) (c_X7_rowOf  hq (by omega)) dX7_copy_7 gX7_copy_X7_rowOf rfl cd_X7_rowOf ⟨Nat.le_of_ble_eq_true rfl, Nat.le_of_ble_eq_true rfl⟩ rfl rfl (by omega) rfl rfl rfl (Nat.le_of_ble_eq_true rfl) ⟨Nat.zero_le _, Nat.zero_le _⟩ (fun r_7 g_7 hp_7 => ?_)
  obtain ⟨rfl, rfl⟩ := hp_7
  by_cases k_7 : 0 ≤ z ∧ z < 4
  · rw [if_pos k_7]
    refine z_asref ?_
    refine z_astore [(6, .ref (q (2 + z.toNat))), (0, .ref (q 0)), (1, .int (iI z)), (2, .int (iI ii)), (3, .int (iI oo)), (4, .int (iI jj)), (5, .int (iI nn))] dX7_copy_10 (by decide) rfl ?_
    refine z_aload_n (j := 1) dX7_copy_12 rfl rfl ?_
    refine z_iload_n (j := 4) dX7_copy_13 rfl rfl ?_
    refine z_callVq (i := 0) (ci := 7) (As := [.int (iI oo)]) (rest := []) (c_X7_rowOf  hq (by omega)) dX7_copy_14 gX7_copy_X7_rowOf rfl cd_X7_rowOf ⟨Nat.le_of_ble_eq_true rfl, Nat.le_of_ble_eq_true rfl⟩ rfl rfl (by omega) rfl rfl rfl (Nat.le_of_ble_eq_true rfl) ⟨Nat.zero_le _, Nat.zero_le _⟩ (fun r_14 g_14 hp_14 => ?_)
    obtain ⟨rfl, rfl⟩ := hp_14
    by_cases k_14 : 0 ≤ oo ∧ oo < 4
    · rw [if_pos k_14]
      refine z_asref ?_
      refine z_astore [(7, .ref (q (2 + oo.toNat))), (6, .ref (q (2 + z.toNat))), (0, .ref (q 0)), (1, .int (iI z)), (2, .int (iI ii)), (3, .int (iI oo)), (4, .int (iI jj)), (5, .int (iI nn))] dX7_copy_17 (by decide) rfl ?_
      refine z_aload (j := 1) dX7_copy_19 rfl ?_
      refine z_ifnull dX7_copy_21 ?_
      refine z_aload (j := 0) dX7_copy_24 rfl ?_
      refine z_ifnonnull (tgt := 31) dX7_copy_26 (by decide) ?_
      refine z_aload (j := 1) dX7_copy_31 rfl ?_
      refine z_callVi (i := 2 + z.toNat) (ci := 3) (As := []) (rest := []) (c_X3_isNothing  hq (by omega) (hRows0 _ (by omega)).1) dX7_copy_33 gX7_copy_X3_isNothing rfl cd_X3_isNothing ⟨Nat.le_of_ble_eq_true rfl, Nat.le_of_ble_eq_true rfl⟩ rfl rfl (by omega) (cX_row (by omega)) rfl rfl (Nat.le_of_ble_eq_true rfl) ⟨Nat.zero_le _, Nat.zero_le _⟩ (fun r_33 g_33 hp_33 => ?_)
      obtain ⟨⟨h_33, rfl⟩ | ⟨h_33, rfl⟩, rfl⟩ := hp_33
      · refine z_if_ne (tgt := 47) dX7_copy_36 (by decide) (by decide) (fun _ => ?_) (fun h => absurd h (by decide))
        refine z_aload_n (j := 2) dX7_copy_47 rfl rfl ?_
        refine z_iconst dX7_copy_48 ?_
        refine z_callVi (i := 0) (ci := 7) (As := [.int (iI 1)]) (rest := []) (c_X7_failed  hq (by omega)) dX7_copy_49 gX7_copy_X7_failed rfl cd_X7_failed ⟨Nat.le_of_ble_eq_true rfl, Nat.le_of_ble_eq_true rfl⟩ rfl rfl (by omega) rfl rfl rfl (Nat.le_of_ble_eq_true rfl) ⟨Nat.zero_le _, Nat.zero_le _⟩ (fun r_49 g_49 hp_49 => ?_)
        obtain ⟨e_49, xi_49, he_49, rfl, rfl⟩ := hp_49
        exact z_iret dX7_copy_52 ⟨_, _, _, (by
      have hor : xi (2 + z.toNat) = -1 ∨ xi (2 + oo.toNat) = -1 := by
        first
          | (rw [hu2] at h_33; exact Or.inl h_33)
          | (rw [hu2] at h_41; exact Or.inr h_41)
      unfold spCopy; rw [if_neg (by omega), vlan (by omega), vlan (by omega), if_pos hor, he_49.2, hu1]; exact ⟨⟨he_49.1, vX_fa hw⟩, XOk_fa hO (by omega)⟩), rfl, rfl⟩
      · refine z_if_ne (tgt := 47) dX7_copy_36 (by decide) (by decide) (fun h => absurd h (by decide)) (fun _ => ?_)
        refine z_aload (j := 0) dX7_copy_39 rfl ?_
        refine z_callVi (i := 2 + oo.toNat) (ci := 3) (As := []) (rest := []) (c_X3_isNothing  hq (by omega) (hRows0 _ (by omega)).1) dX7_copy_41 gX7_copy_X3_isNothing rfl cd_X3_isNothing ⟨Nat.le_of_ble_eq_true rfl, Nat.le_of_ble_eq_true rfl⟩ rfl rfl (by omega) (cX_row (by omega)) rfl rfl (Nat.le_of_ble_eq_true rfl) ⟨Nat.zero_le _, Nat.zero_le _⟩ (fun r_41 g_41 hp_41 => ?_)
        obtain ⟨⟨h_41, rfl⟩ | ⟨h_41, rfl⟩, rfl⟩ := hp_41
        · refine z_if_eq (tgt := 53) dX7_copy_44 (by decide) (by decide) (fun h => absurd h (by decide)) (fun _ => ?_)
          refine z_aload_n (j := 2) dX7_copy_47 rfl rfl ?_
          refine z_iconst dX7_copy_48 ?_
          refine z_callVi (i := 0) (ci := 7) (As := [.int (iI 1)]) (rest := []) (c_X7_failed  hq (by omega)) dX7_copy_49 gX7_copy_X7_failed rfl cd_X7_failed ⟨Nat.le_of_ble_eq_true rfl, Nat.le_of_ble_eq_true rfl⟩ rfl rfl (by omega) rfl rfl rfl (Nat.le_of_ble_eq_true rfl) ⟨Nat.zero_le _, Nat.zero_le _⟩ (fun r_49 g_49 hp_49 => ?_)
          obtain ⟨e_49, xi_49, he_49, rfl, rfl⟩ := hp_49
          exact z_iret dX7_copy_52 ⟨_, _, _, (by
      have hor : xi (2 + z.toNat) = -1 ∨ xi (2 + oo.toNat) = -1 := by
        first
          | (rw [hu2] at h_33; exact Or.inl h_33)
          | (rw [hu2] at h_41; exact Or.inr h_41)
      unfold spCopy; rw [if_neg (by omega), vlan (by omega), vlan (by omega), if_pos hor, he_49.2, hu1]; exact ⟨⟨he_49.1, vX_fa hw⟩, XOk_fa hO (by omega)⟩), rfl, rfl⟩
        · refine z_if_eq (tgt := 53) dX7_copy_44 (by decide) (by decide) (fun _ => ?_) (fun h => absurd h (by decide))
          have hlz2 := (hRows0 z.toNat (by omega)).1.1
          have hlo2 := (hRows0 oo.toNat (by omega)).1.1
          refine z_aload (j := 1) dX7_copy_53 rfl ?_
          refine z_getfN (i := 2 + z.toNat) (ci := 3) (k := 1) (v := .int (iI ((va_up xi 1 0) (2 + z.toNat)))) dX7_copy_55 nwf_X7_237 in_X7_copy_X3 rfl (by decide) rfl (by omega) (cX_row (by omega)) rfl ?_
          refine z_aload (j := 0) dX7_copy_58 rfl ?_
          refine z_getfN (i := 2 + oo.toNat) (ci := 3) (k := 1) (v := .int (iI ((va_up xi 1 0) (2 + oo.toNat)))) dX7_copy_60 nwf_X7_237 in_X7_copy_X3 rfl (by decide) rfl (by omega) (cX_row (by omega)) rfl ?_
          refine z_icmp_eq (tgt := 72) dX7_copy_63 (by decide) (by omega) (by omega) (fun c_63 => ?_) (fun c_63 => ?_)
          · refine z_aload (j := 1) dX7_copy_72 rfl ?_
            refine z_iload_n (j := 4) dX7_copy_74 rfl rfl ?_
            refine z_iload (j := 7) dX7_copy_75 rfl ?_
            refine z_callVi (i := 2 + z.toNat) (ci := 3) (As := [.int (iI ii), .int (iI nn)]) (rest := []) (c_X3_hasStretch  hq (by omega) (hRows0 _ (by omega)).1 (by omega) (by omega)) dX7_copy_77 gX7_copy_X3_hasStretch rfl cd_X3_hasStretch ⟨Nat.le_of_ble_eq_true rfl, Nat.le_of_ble_eq_true rfl⟩ rfl rfl (by omega) (cX_row (by omega)) rfl rfl (Nat.le_of_ble_eq_true rfl) ⟨Nat.zero_le _, Nat.zero_le _⟩ (fun r_77 g_77 hp_77 => ?_)
            obtain ⟨⟨h_77, rfl⟩ | ⟨h_77, rfl⟩, rfl⟩ := hp_77
            · refine z_if_eq (tgt := 95) dX7_copy_80 (by decide) (by decide) (fun h => absurd h (by decide)) (fun _ => ?_)
              refine z_aload (j := 0) dX7_copy_83 rfl ?_
              refine z_iload (j := 6) dX7_copy_85 rfl ?_
              refine z_iload (j := 7) dX7_copy_87 rfl ?_
              refine z_callVi (i := 2 + oo.toNat) (ci := 3) (As := [.int (iI jj), .int (iI nn)]) (rest := []) (c_X3_hasStretch  hq (by omega) (hRows0 _ (by omega)).1 (by omega) (by omega)) dX7_copy_89 gX7_copy_X3_hasStretch rfl cd_X3_hasStretch ⟨Nat.le_of_ble_eq_true rfl, Nat.le_of_ble_eq_true rfl⟩ rfl rfl (by omega) (cX_row (by omega)) rfl rfl (Nat.le_of_ble_eq_true rfl) ⟨Nat.zero_le _, Nat.zero_le _⟩ (fun r_89 g_89 hp_89 => ?_)
              obtain ⟨⟨h_89, rfl⟩ | ⟨h_89, rfl⟩, rfl⟩ := hp_89
              · refine z_if_ne (tgt := 101) dX7_copy_92 (by decide) (by decide) (fun _ => ?_) (fun h => absurd h (by decide))
                have hlz := hln z.toNat (by omega)
                have hlo := hln oo.toNat (by omega)
                have g77 := h_77
                have g89 := h_89
                rw [hu6] at g77 g89
                refine z_aload (j := 1) dX7_copy_101 rfl ?_
                refine z_getfN (i := 2 + z.toNat) (ci := 3) (k := 0) (v := .ref (q (6 + z.toNat))) dX7_copy_103 nwf_X7_240 in_X7_copy_X3 rfl (by decide) rfl (by omega) (cX_row (by omega)) rfl ?_
                refine z_iload_n (j := 4) dX7_copy_106 rfl rfl ?_
                refine z_aload (j := 0) dX7_copy_107 rfl ?_
                refine z_getfN (i := 2 + oo.toNat) (ci := 3) (k := 0) (v := .ref (q (6 + oo.toNat))) dX7_copy_109 nwf_X7_240 in_X7_copy_X3 rfl (by decide) rfl (by omega) (cX_row (by omega)) rfl ?_
                refine z_iload (j := 6) dX7_copy_112 rfl ?_
                refine z_iload (j := 7) dX7_copy_114 rfl ?_
                refine z_copyi (i1 := 6 + z.toNat) (i2 := 6 + oo.toNat) (g1 := xa z.toNat) (g2 := xa oo.toNat) 0 (cX cI cJ cZ cR q w d (va_up xi 1 0) (va_up xa oo.toNat (cpyN (xa z.toNat) (xa oo.toNat) ii.toNat jj.toNat nn.toNat))) dX7_copy_116 m_X7_copy_acl m_X7_copy_acn m_X7_copy_acs m_X7_copy_aci (by omega) (by omega) (cX_num (by omega)) (cX_num (by omega)) rfl (by omega) (by omega) (by omega) (by omega) (by omega) (Nat.le_of_ble_eq_true rfl) (Nat.le_trans (Nat.add_le_add_left nfw40 _) (Nat.le_of_ble_eq_true rfl)) (lw_num (by omega)) ?_
                refine z_iload (j := 7) dX7_copy_119 rfl ?_
                exact z_iret dX7_copy_121 ⟨_, _, _, (by
      rw [hu2] at h_33 h_41
      rw [hu2, hu2] at c_63
      have hrz := (hRows z.toNat (by omega)).1
      have hro := (hRows oo.toNat (by omega)).1
      unfold spCopy; rw [if_neg (by omega), vlan (by omega), vlan (by omega), if_neg (fun q => q.elim h_33 h_41), if_neg (not_not_intro c_63), vlen (by omega), vlen (by omega), if_neg (by omega)]
      refine ⟨⟨rfl, ?_⟩, XOk_sh hO0 (j := oo.toNat) (by omega) (fun _ _ _ _ => rfl) (fun k hk => up_n hk) ⟨⟨(hRows0 oo.toNat (by omega)).1.1, (hRows0 oo.toNat (by omega)).1.2.1, ?_⟩, (hRows0 oo.toNat (by omega)).2⟩ (by rw [up_s]; omega)⟩
      · rw [vX_sh (xi := xi) (xa := xa) (j := oo.toNat) (l := xi (2 + oo.toNat)) (n := xi (6 + oo.toNat)) (g := cpyN (nrm (xi (6 + z.toNat)) (xa z.toNat)) (nrm (xi (6 + oo.toNat)) (xa oo.toNat)) ii.toNat jj.toNat nn.toNat) hw (by omega) (fun k h1 h2 h3 => up_n h1) (fun k hk => up_n hk) (hu2 _) (hu6 _) (by rw [up_s]; exact nrm_cpy (by omega) (by omega)), up_s, ← lanX_in (xi := xi) (show oo.toNat < 4 by omega), ← lenX_in (xi := xi) (show oo.toNat < 4 by omega), up_id, up_id]
        show sSh _ (lanX xi) (lenX xi) _ = sSh _ (lanX xi) (lenX xi) (va_up (numX xi xa) oo.toNat (cpyN (numX xi xa z.toNat) (numX xi xa oo.toNat) ii.toNat jj.toNat nn.toNat))
        rw [numX_in (show oo.toNat < 4 by omega), numX_in (show z.toNat < 4 by omega), lenX_in (show oo.toNat < 4 by omega)]
      · intro k
        rw [up_s]
        unfold cpyN
        split
        · exact hrz.2.2 _
        · exact hro.2.2 _), rfl, rfl⟩
              · refine z_if_ne (tgt := 101) dX7_copy_92 (by decide) (by decide) (fun h => absurd h (by decide)) (fun _ => ?_)
                refine z_aload_n (j := 2) dX7_copy_95 rfl rfl ?_
                refine z_iconst dX7_copy_96 ?_
                refine z_callVi (i := 0) (ci := 7) (As := [.int (iI 3)]) (rest := []) (c_X7_failed  hq (by omega)) dX7_copy_97 gX7_copy_X7_failed rfl cd_X7_failed ⟨Nat.le_of_ble_eq_true rfl, Nat.le_of_ble_eq_true rfl⟩ rfl rfl (by omega) rfl rfl rfl (Nat.le_of_ble_eq_true rfl) ⟨Nat.zero_le _, Nat.zero_le _⟩ (fun r_97 g_97 hp_97 => ?_)
                obtain ⟨e_97, xi_97, he_97, rfl, rfl⟩ := hp_97
                exact z_iret dX7_copy_100 ⟨_, _, _, (by
      rw [hu2] at h_33 h_41
      rw [hu2, hu2] at c_63
      have hno : ¬ ((0 ≤ ii ∧ 0 ≤ nn ∧ ii + nn ≤ xi (6 + z.toNat)) ∧ 0 ≤ jj ∧ jj + nn ≤ xi (6 + oo.toNat)) := by
        first
          | (rw [hu6] at h_89; omega)
          | (rw [hu6] at h_77; omega)
      unfold spCopy; rw [if_neg (by omega), vlan (by omega), vlan (by omega), if_neg (fun q => q.elim h_33 h_41), if_neg (not_not_intro c_63), vlen (by omega), vlen (by omega), if_pos hno, he_97.2, hu1]; exact ⟨⟨he_97.1, vX_fa hw⟩, XOk_fa hO (by omega)⟩), rfl, rfl⟩
            · refine z_if_eq (tgt := 95) dX7_copy_80 (by decide) (by decide) (fun _ => ?_) (fun h => absurd h (by decide))
              refine z_aload_n (j := 2) dX7_copy_95 rfl rfl ?_
              refine z_iconst dX7_copy_96 ?_
              refine z_callVi (i := 0) (ci := 7) (As := [.int (iI 3)]) (rest := []) (c_X7_failed  hq (by omega)) dX7_copy_97 gX7_copy_X7_failed rfl cd_X7_failed ⟨Nat.le_of_ble_eq_true rfl, Nat.le_of_ble_eq_true rfl⟩ rfl rfl (by omega) rfl rfl rfl (Nat.le_of_ble_eq_true rfl) ⟨Nat.zero_le _, Nat.zero_le _⟩ (fun r_97 g_97 hp_97 => ?_)
              obtain ⟨e_97, xi_97, he_97, rfl, rfl⟩ := hp_97
              exact z_iret dX7_copy_100 ⟨_, _, _, (by
      rw [hu2] at h_33 h_41
      rw [hu2, hu2] at c_63
      have hno : ¬ ((0 ≤ ii ∧ 0 ≤ nn ∧ ii + nn ≤ xi (6 + z.toNat)) ∧ 0 ≤ jj ∧ jj + nn ≤ xi (6 + oo.toNat)) := by
        first
          | (rw [hu6] at h_89; omega)
          | (rw [hu6] at h_77; omega)
      unfold spCopy; rw [if_neg (by omega), vlan (by omega), vlan (by omega), if_neg (fun q => q.elim h_33 h_41), if_neg (not_not_intro c_63), vlen (by omega), vlen (by omega), if_pos hno, he_97.2, hu1]; exact ⟨⟨he_97.1, vX_fa hw⟩, XOk_fa hO (by omega)⟩), rfl, rfl⟩
          · refine z_aload_n (j := 2) dX7_copy_66 rfl rfl ?_
            refine z_iconst dX7_copy_67 ?_
            refine z_callVi (i := 0) (ci := 7) (As := [.int (iI 2)]) (rest := []) (c_X7_failed  hq (by omega)) dX7_copy_68 gX7_copy_X7_failed rfl cd_X7_failed ⟨Nat.le_of_ble_eq_true rfl, Nat.le_of_ble_eq_true rfl⟩ rfl rfl (by omega) rfl rfl rfl (Nat.le_of_ble_eq_true rfl) ⟨Nat.zero_le _, Nat.zero_le _⟩ (fun r_68 g_68 hp_68 => ?_)
            obtain ⟨e_68, xi_68, he_68, rfl, rfl⟩ := hp_68
            exact z_iret dX7_copy_71 ⟨_, _, _, (by
      rw [hu2] at h_33 h_41
      rw [hu2, hu2] at c_63
      unfold spCopy; rw [if_neg (by omega), vlan (by omega), vlan (by omega), if_neg (fun q => q.elim h_33 h_41), if_pos c_63, he_68.2, hu1]; exact ⟨⟨he_68.1, vX_fa hw⟩, XOk_fa hO (by omega)⟩), rfl, rfl⟩
    · rw [if_neg k_14]
      refine z_asnull ?_
      refine z_astoreN [(7, .null), (6, .ref (q (2 + z.toNat))), (0, .ref (q 0)), (1, .int (iI z)), (2, .int (iI ii)), (3, .int (iI oo)), (4, .int (iI jj)), (5, .int (iI nn))] dX7_copy_17 (by decide) rfl ?_
      refine z_aload (j := 1) dX7_copy_19 rfl ?_
      refine z_ifnull dX7_copy_21 ?_
      refine z_aloadN (j := 0) dX7_copy_24 rfl ?_
      refine z_ifnonnullN dX7_copy_26 ?_
      refine z_iconst dX7_copy_29 ?_
      exact z_iret dX7_copy_30 ⟨_, _, _, (by unfold spCopy; rw [if_pos (by omega)]; exact ⟨⟨rfl, vX_fa hw⟩, hO0⟩), rfl, rfl⟩
  · rw [if_neg k_7]
    refine z_asnull ?_
    refine z_astoreN [(6, .null), (0, .ref (q 0)), (1, .int (iI z)), (2, .int (iI ii)), (3, .int (iI oo)), (4, .int (iI jj)), (5, .int (iI nn))] dX7_copy_10 (by decide) rfl ?_
    refine z_aload_n (j := 1) dX7_copy_12 rfl rfl ?_
    refine z_iload_n (j := 4) dX7_copy_13 rfl rfl ?_
    refine z_callVq (i := 0) (ci := 7) (As := [.int (iI oo)]) (rest := []) (c_X7_rowOf  hq (by omega)) dX7_copy_14 gX7_copy_X7_rowOf rfl cd_X7_rowOf ⟨Nat.le_of_ble_eq_true rfl, Nat.le_of_ble_eq_true rfl⟩ rfl rfl (by omega) rfl rfl rfl (Nat.le_of_ble_eq_true rfl) ⟨Nat.zero_le _, Nat.zero_le _⟩ (fun r_14 g_14 hp_14 => ?_)
    obtain ⟨rfl, rfl⟩ := hp_14
    by_cases k_14 : 0 ≤ oo ∧ oo < 4
    · rw [if_pos k_14]
      refine z_asref ?_
      refine z_astore [(7, .ref (q (2 + oo.toNat))), (6, .null), (0, .ref (q 0)), (1, .int (iI z)), (2, .int (iI ii)), (3, .int (iI oo)), (4, .int (iI jj)), (5, .int (iI nn))] dX7_copy_17 (by decide) rfl ?_
      refine z_aloadN (j := 1) dX7_copy_19 rfl ?_
      refine z_ifnullN (tgt := 29) dX7_copy_21 (by decide) ?_
      refine z_iconst dX7_copy_29 ?_
      exact z_iret dX7_copy_30 ⟨_, _, _, (by unfold spCopy; rw [if_pos (by omega)]; exact ⟨⟨rfl, vX_fa hw⟩, hO0⟩), rfl, rfl⟩
    · rw [if_neg k_14]
      refine z_asnull ?_
      refine z_astoreN [(7, .null), (6, .null), (0, .ref (q 0)), (1, .int (iI z)), (2, .int (iI ii)), (3, .int (iI oo)), (4, .int (iI jj)), (5, .int (iI nn))] dX7_copy_17 (by decide) rfl ?_
      refine z_aloadN (j := 1) dX7_copy_19 rfl ?_
      refine z_ifnullN (tgt := 29) dX7_copy_21 (by decide) ?_
      refine z_iconst dX7_copy_29 ?_
      exact z_iret dX7_copy_30 ⟨_, _, _, (by unfold spCopy; rw [if_pos (by omega)]; exact ⟨⟨rfl, vX_fa hw⟩, hO0⟩), rfl, rfl⟩
