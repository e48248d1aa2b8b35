theorem m_X3_begin_f9 : Cond.fieldLink RX3 9 "PoleBehind$Row" "numbers" "[I" ∈ wsX3_begin := List.mem_of_getElem? (i := 1) rfl
theorem in_X3_begin_X3 : ∀ w ∈ wsX30, w ∈ wsX3_begin := fun _ h => List.mem_cons_of_mem _ (List.mem_append_right _ h)
theorem cd_J7_fill_53178 : yJ7_fill_53178.cls ≠ "java/lang/invoke/MethodHandle" ∧ yJ7_fill_53178.cls ≠ "java/lang/invoke/VarHandle" ∧ (parseMethodDescriptor yJ7_fill_53178.desc).map (fun d => d.parameters.length) = some 2 := ⟨by decide +kernel, by decide +kernel, by decide +kernel⟩
theorem m_X3_begin_f15 : Cond.fieldLink RX3 15 "PoleBehind$Row" "lane" "I" ∈ wsX3_begin := List.mem_of_getElem? (i := 2) rfl
theorem m_X3_begin_lmi25 : Cond.methodLink RX3 25 Lib.Math.min.name ∈ wsX3_begin := List.mem_of_getElem? (i := 3) rfl
theorem m_X3_begin_smi : Cond.static Lib.Math.min.name ∈ wsX3_begin := List.mem_of_getElem? (i := 4) rfl
theorem m_X3_begin_imi : Cond.initialized "java/lang/Math" ∈ wsX3_begin := List.mem_of_getElem? (i := 5) rfl
theorem m_X3_begin_kmi : Cond.code Lib.Math.min.name Lib.Math.min.code 2 (some .int) ∈ wsX3_begin := List.mem_of_getElem? (i := 6) rfl
theorem m_X3_begin_lma31 : Cond.methodLink RX3 31 Lib.Math.max.name ∈ wsX3_begin := List.mem_of_getElem? (i := 7) rfl
theorem m_X3_begin_sma : Cond.static Lib.Math.max.name ∈ wsX3_begin := List.mem_of_getElem? (i := 8) rfl
theorem m_X3_begin_ima : Cond.initialized "java/lang/Math" ∈ wsX3_begin := List.mem_of_getElem? (i := 5) rfl
theorem m_X3_begin_kma : Cond.code Lib.Math.max.name Lib.Math.max.code 2 (some .int) ∈ wsX3_begin := List.mem_of_getElem? (i := 9) rfl
theorem m_X3_begin_f34 : Cond.fieldLink RX3 34 "PoleBehind$Row" "length" "I" ∈ wsX3_begin := List.mem_of_getElem? (i := 10) rfl
set_option maxHeartbeats 400000 in
set_option maxRecDepth 100000 in
theorem c_X3_begin {l : Launch} {D : va_G} {cI cJ cZ cR : ClassId} {q : Nat → Nat} {w d : Nat} {xi : Nat → Int} {xa : Nat → Nat → Int} (hq : qOk 31 q) {j : Nat} {t nn : Int} (hj : j < 4) (hR : RowOk xi xa j) (ht : -1 ≤ t ∧ t ≤ 2) (hn : -2147483648 ≤ nn ∧ nn < 2147483648) : Ctv l D vwCl (tysC cI cJ cZ cR) 31 q yX3_begin wsX3_begin ({ frames := 1, cells := 0, slots := 0, locals := 23 } : Room) [.ref (q (2 + j)), .int (iI t), .int (iI nn)] (cX cI cJ cZ cR q w d xi xa) (fun (g : Nat → va_E) => ∃ (xi' : Nat → Int) (xa' : Nat → Nat → Int), (∃ G : Nat → Int, (∀ k : Nat, k < 60 → G k = 0) ∧ (∀ k : Nat, 60 ≤ k → G k = xa j k) ∧ xi' = va_up (va_up xi (2 + j) t) (6 + j) (max 0 (min nn 60)) ∧ xa' = va_up xa j G) ∧ g = (cX cI cJ cZ cR q w d xi' xa')) := by
  refine Ctv.of (cc := cX3_begin) (nL := 3) (own := RX3) (ret := none) (by decide) rfl rfl hq (Nat.le_of_ble_eq_true rfl) (fun p e s m args below meth c => ?_)
  obtain ⟨hL, hN, hE⟩ := id hR
  refine z_aload_n (j := 0) dX3_begin_0 rfl rfl ?_
  refine z_getf (i := 2 + j) (ci := 3) (k := 0) (v := .ref (q (6 + j))) dX3_begin_1 m_X3_begin_f9 in_X3_begin_X3 rfl (by decide) rfl (by omega) (cX_row hj) rfl ?_
  refine z_iconst dX3_begin_4 ?_
  refine z_callSv (As := [.ref (q (6 + j)), .int (iI 0)]) (rest := []) (c_J7_fill_53178 hq (by omega) (by decide) (cX_num hj)) dX3_begin_5 gX3_begin_J7_fill_53178 rfl cd_J7_fill_53178 ⟨Nat.le_of_ble_eq_true rfl, Nat.le_of_ble_eq_true rfl⟩ rfl rfl rfl (Nat.le_of_ble_eq_true rfl) ⟨Nat.zero_le _, Nat.zero_le _⟩ (fun g_5 hp_5 => ?_)
  obtain ⟨G, ⟨hG, hG2⟩, rfl⟩ := hp_5
  refine z_mem (lw_num (g := G) hj) ?_
  refine z_aload_n (j := 0) dX3_begin_8 rfl rfl ?_
  refine z_iload_n (j := 1) dX3_begin_9 rfl rfl ?_
  refine z_putf (i := 2 + j) (ci := 3) (k := 1) (cX cI cJ cZ cR q w d (va_up xi (2 + j) t) (va_up xa j G)) dX3_begin_10 m_X3_begin_f15 in_X3_begin_X3 rfl (by decide) rfl (by omega) (cX_row hj) tyX3_ok nmX3 rfl rfl rfl (Nat.le_of_ble_eq_true rfl) (lx_lane hj) ?_
  refine z_aload_n (j := 0) dX3_begin_13 rfl rfl ?_
  refine z_iconst dX3_begin_14 ?_
  refine z_iload_n (j := 2) dX3_begin_15 rfl rfl ?_
  refine z_bipush dX3_begin_16 (by decide) ?_
  refine z_mmin dX3_begin_18 m_X3_begin_lmi25 m_X3_begin_smi m_X3_begin_imi m_X3_begin_kmi (Nat.le_of_ble_eq_true rfl) (Nat.le_of_ble_eq_true rfl) ⟨Nat.zero_le _, Nat.zero_le _⟩ (by omega) (by decide) ?_
  refine z_mmax dX3_begin_21 m_X3_begin_lma31 m_X3_begin_sma m_X3_begin_ima m_X3_begin_kma (Nat.le_of_ble_eq_true rfl) (Nat.le_of_ble_eq_true rfl) ⟨Nat.zero_le _, Nat.zero_le _⟩ (by decide) (by omega) ?_
  refine z_putf (i := 2 + j) (ci := 3) (k := 2) (cX cI cJ cZ cR q w d (va_up (va_up xi (2 + j) t) (6 + j) (max 0 (min nn 60))) (va_up xa j G)) dX3_begin_24 m_X3_begin_f34 in_X3_begin_X3 rfl (by decide) rfl (by omega) (cX_row hj) tyX3_ok nmX3 rfl rfl rfl (Nat.le_of_ble_eq_true rfl) (lx_len hj) ?_
  exact z_vret dX3_begin_27 ⟨_, _, (⟨G, hG, hG2, rfl, rfl⟩), rfl⟩
theorem m_X1_add_f18 : Cond.fieldLink RX1 18 "PoleBehind$Readings" "count" "I" ∈ wsX1_add := List.mem_of_getElem? (i := 1) rfl
theorem in_X1_add_X1 : ∀ w ∈ wsX10, w ∈ wsX1_add := fun _ h => List.mem_cons_of_mem _ (List.mem_append_right _ h)
theorem m_X1_add_f9 : Cond.fieldLink RX1 9 "PoleBehind$Readings" "turnRow" "[I" ∈ wsX1_add := List.mem_of_getElem? (i := 2) rfl
theorem m_X1_add_f15 : Cond.fieldLink RX1 15 "PoleBehind$Readings" "cellRow" "[I" ∈ wsX1_add := List.mem_of_getElem? (i := 3) rfl
set_option maxHeartbeats 400000 in
set_option maxRecDepth 100000 in
theorem c_X1_add {l : Launch} {D : va_G} {cI cJ cZ cR : ClassId} {q : Nat → Nat} {w d : Nat} {xi : Nat → Int} {xa : Nat → Nat → Int} (hq : qOk 31 q) {t cc : Int} (h8 : 0 ≤ xi 18 ∧ xi 18 < 8) : Ctv l D vwCl (tysC cI cJ cZ cR) 31 q yX1_add wsX1_add ({ frames := 0, cells := 0, slots := 0, locals := 0 } : Room) [.ref (q 24), .int (iI t), .int (iI cc)] (cX cI cJ cZ cR q w d xi xa) (fun (g : Nat → va_E) => ∃ (xi' : Nat → Int) (xa' : Nat → Nat → Int), (xi' = va_up xi 18 (xi 18 + 1) ∧ xa' = va_up (va_up xa 14 (va_up (xa 14) (xi 18).toNat t)) 15 (va_up ((va_up xa 14 (va_up (xa 14) (xi 18).toNat t)) 15) (xi 18).toNat cc)) ∧ g = (cX cI cJ cZ cR q w d xi' xa')) := by
  refine Ctv.of (cc := cX1_add) (nL := 3) (own := RX1) (ret := none) (by decide) rfl rfl hq (Nat.le_of_ble_eq_true rfl) (fun p e s m args below meth c => ?_)
  refine z_aload_n (j := 0) dX1_add_0 rfl rfl ?_
  refine z_getf (i := 24) (ci := 1) (k := 2) (v := .int (iI (xi 18))) dX1_add_1 m_X1_add_f18 in_X1_add_X1 rfl (by decide) rfl (by omega) rfl rfl ?_
  refine z_if_lt (tgt := 46) dX1_add_4 (by decide) (by omega) (fun h => absurd h (by omega)) (fun c_4 => ?_)
  refine z_aload_n (j := 0) dX1_add_7 rfl rfl ?_
  refine z_getf (i := 24) (ci := 1) (k := 2) (v := .int (iI (xi 18))) dX1_add_8 m_X1_add_f18 in_X1_add_X1 rfl (by decide) rfl (by omega) rfl rfl ?_
  refine z_bipush dX1_add_11 (by decide) ?_
  refine z_icmp_ge (tgt := 46) dX1_add_13 (by decide) (by omega) (by decide) (fun h => absurd h (by omega)) (fun c_13 => ?_)
  refine z_aload_n (j := 0) dX1_add_16 rfl rfl ?_
  refine z_getf (i := 24) (ci := 1) (k := 0) (v := .ref (q 25)) dX1_add_17 m_X1_add_f9 in_X1_add_X1 rfl (by decide) rfl (by omega) rfl rfl ?_
  refine z_aload_n (j := 0) dX1_add_20 rfl rfl ?_
  refine z_getf (i := 24) (ci := 1) (k := 2) (v := .int (iI (xi 18))) dX1_add_21 m_X1_add_f18 in_X1_add_X1 rfl (by decide) rfl (by omega) rfl rfl ?_
  refine z_iload_n (j := 1) dX1_add_24 rfl rfl ?_
  refine z_iast (i := 25) (g := xa 14) 0 (cX cI cJ cZ cR q w d xi (va_up xa 14 (va_up (xa 14) (xi 18).toNat t))) dX1_add_25 (by omega) rfl rfl (by omega) (by omega) (by omega) lx_turn ?_
  refine z_aload_n (j := 0) dX1_add_26 rfl rfl ?_
  refine z_getf (i := 24) (ci := 1) (k := 1) (v := .ref (q 26)) dX1_add_27 m_X1_add_f15 in_X1_add_X1 rfl (by decide) rfl (by omega) rfl rfl ?_
  refine z_aload_n (j := 0) dX1_add_30 rfl rfl ?_
  refine z_getf (i := 24) (ci := 1) (k := 2) (v := .int (iI (xi 18))) dX1_add_31 m_X1_add_f18 in_X1_add_X1 rfl (by decide) rfl (by omega) rfl rfl ?_
  refine z_iload_n (j := 2) dX1_add_34 rfl rfl ?_
  refine z_iast (i := 26) (g := (va_up xa 14 (va_up (xa 14) (xi 18).toNat t)) 15) 0 (cX cI cJ cZ cR q w d xi (va_up (va_up xa 14 (va_up (xa 14) (xi 18).toNat t)) 15 (va_up ((va_up xa 14 (va_up (xa 14) (xi 18).toNat t)) 15) (xi 18).toNat cc))) dX1_add_35 (by omega) rfl rfl (by omega) (by omega) (by omega) lx_rcell ?_
  refine z_aload_n (j := 0) dX1_add_36 rfl rfl ?_
  refine z_dup dX1_add_37 rfl ?_
  refine z_getf (i := 24) (ci := 1) (k := 2) (v := .int (iI (xi 18))) dX1_add_38 m_X1_add_f18 in_X1_add_X1 rfl (by decide) rfl (by omega) rfl rfl ?_
  refine z_iconst dX1_add_41 ?_
  refine z_iadd dX1_add_42 ?_
  refine z_putf (i := 24) (ci := 1) (k := 2) (cX cI cJ cZ cR q w d (va_up xi 18 ((xi 18) + 1)) (va_up (va_up xa 14 (va_up (xa 14) (xi 18).toNat t)) 15 (va_up ((va_up xa 14 (va_up (xa 14) (xi 18).toNat t)) 15) (xi 18).toNat cc))) dX1_add_43 m_X1_add_f18 in_X1_add_X1 rfl (by decide) rfl (by omega) rfl tyX1_ok nmX1 rfl rfl rfl (Nat.le_of_ble_eq_true rfl) lx_rcount ?_
  exact z_vret dX1_add_46 ⟨_, _, (⟨rfl, rfl⟩), rfl⟩
theorem m_X1_allow_f18 : Cond.fieldLink RX1 18 "PoleBehind$Readings" "count" "I" ∈ wsX1_allow := List.mem_of_getElem? (i := 1) rfl
theorem in_X1_allow_X1 : ∀ w ∈ wsX10, w ∈ wsX1_allow := fun _ h => List.mem_cons_of_mem _ (List.mem_append_right _ h)
theorem m_X1_allow_f9 : Cond.fieldLink RX1 9 "PoleBehind$Readings" "turnRow" "[I" ∈ wsX1_allow := List.mem_of_getElem? (i := 2) rfl
theorem m_X1_allow_f15 : Cond.fieldLink RX1 15 "PoleBehind$Readings" "cellRow" "[I" ∈ wsX1_allow := List.mem_of_getElem? (i := 3) rfl
set_option maxHeartbeats 400000 in
set_option maxRecDepth 100000 in
theorem c_X1_allow {l : Launch} {D : va_G} {cI cJ cZ cR : ClassId} {q : Nat → Nat} {w d : Nat} {xi : Nat → Int} {xa : Nat → Nat → Int} (hq : qOk 31 q) {t cc : Int} (hR : RdgOk xi xa) (ht : -2147483648 ≤ t ∧ t < 2147483648) (hc : -2147483648 ≤ cc ∧ cc < 2147483648) : Cti l D vwCl (tysC cI cJ cZ cR) 31 q yX1_allow wsX1_allow ({ frames := 0, cells := 0, slots := 0, locals := 0 } : Room) [.ref (q 24), .int (iI t), .int (iI cc)] (cX cI cJ cZ cR q w d xi xa) (fun (r : Int32) (g : Nat → va_E) => (((∀ k : Nat, (k : Int) < xi 18 → xa 14 k = t → xa 15 k = cc) ∧ r = iI 1) ∨ (¬ (∀ k : Nat, (k : Int) < xi 18 → xa 14 k = t → xa 15 k = cc) ∧ r = iI 0)) ∧ g = (cX cI cJ cZ cR q w d xi xa)) := by
  refine Cti.of (cc := cX1_allow) (nL := 4) (own := RX1) (ret := (some .boolean)) (by decide) rfl rfl hq (Nat.le_of_ble_eq_true rfl) (fun p e s m args below meth c => ?_)
  obtain ⟨h8, hT, hC⟩ := id hR
  refine z_iconst dX1_allow_0 ?_
  refine z_istore_n [(3, .int (iI 0)), (0, .ref (q 24)), (1, .int (iI t)), (2, .int (iI cc))] dX1_allow_1 rfl (by decide) rfl ?_
  have hl_2 : ∀ (N_2 : Nat) (u : Int), (10 - u).toNat < N_2 → (0 ≤ u ∧ u ≤ xi 18) → (∀ k : Nat, (k : Int) < u → xa 14 k = t → xa 15 k = cc) → ZMi l D vwCl (tysC cI cJ cZ cR) 31 q ({ frames := 0, cells := 0, slots := 0, locals := 0 } : Room) cX1_allow 4 RX1 wsX1_allow (some .boolean) (fun (r : Int32) (g : Nat → va_E) => (((∀ k : Nat, (k : Int) < xi 18 → xa 14 k = t → xa 15 k = cc) ∧ r = iI 1) ∨ (¬ (∀ k : Nat, (k : Int) < xi 18 → xa 14 k = t → xa 15 k = cc) ∧ r = iI 0)) ∧ g = (cX cI cJ cZ cR q w d xi xa)) p e s m args below meth c (cX cI cJ cZ cR q w d xi xa) 2 [(3, .int (iI u)), (0, .ref (q 24)), (1, .int (iI t)), (2, .int (iI cc))] [] := by
    intro N_2
    induction N_2 with
    | zero => intro u hm; exact absurd hm (Nat.not_lt_zero _)
    | succ N_2 ih_2 =>
      intro u hm_2 hu hv
      have hTu := hT u.toNat
      have hCu := hC u.toNat
      refine z_iload_n (j := 0) dX1_allow_2 rfl rfl ?_
      refine z_aload_n (j := 1) dX1_allow_3 rfl rfl ?_
      refine z_getf (i := 24) (ci := 1) (k := 2) (v := .int (iI (xi 18))) dX1_allow_4 m_X1_allow_f18 in_X1_allow_X1 rfl (by decide) rfl (by omega) rfl rfl ?_
      refine z_icmp_ge (tgt := 44) dX1_allow_7 (by decide) (by omega) (by omega) (fun c_7 => ?_) (fun c_7 => ?_)
      · refine z_iconst dX1_allow_44 ?_
        exact z_zret dX1_allow_45 (Or.inr rfl) ⟨Or.inl ⟨(by exact fun k h1 h2 => hv k (by omega) h2), rfl⟩, rfl⟩
      · refine z_iload_n (j := 0) dX1_allow_10 rfl rfl ?_
        refine z_bipush dX1_allow_11 (by decide) ?_
        refine z_icmp_ge (tgt := 44) dX1_allow_13 (by decide) (by omega) (by decide) (fun c_13 => ?_) (fun c_13 => ?_)
        · refine z_iconst dX1_allow_44 ?_
          exact z_zret dX1_allow_45 (Or.inr rfl) ⟨Or.inl ⟨(by exact fun k h1 h2 => hv k (by omega) h2), rfl⟩, rfl⟩
        · refine z_aload_n (j := 1) dX1_allow_16 rfl rfl ?_
          refine z_getf (i := 24) (ci := 1) (k := 0) (v := .ref (q 25)) dX1_allow_17 m_X1_allow_f9 in_X1_allow_X1 rfl (by decide) rfl (by omega) rfl rfl ?_
          refine z_iload_n (j := 0) dX1_allow_20 rfl rfl ?_
          refine z_iald (i := 25) (g := xa 14) 0 dX1_allow_21 (by omega) rfl rfl (by omega) (by omega) (by omega) ?_
          refine z_iload_n (j := 2) dX1_allow_22 rfl rfl ?_
          refine z_icmp_ne (tgt := 38) dX1_allow_23 (by decide) (by omega) (by omega) (fun c_23 => ?_) (fun c_23 => ?_)
          · refine z_iinc (j := 0) [(3, .int (iI (u + 1))), (0, .ref (q 24)), (1, .int (iI t)), (2, .int (iI cc))] dX1_allow_38 rfl (by decide) rfl ?_
            refine z_goto (tgt := 2) dX1_allow_41 (by decide) ?_
            exact z_sub [(3, .int (iI (u + 1))), (0, .ref (q 24)), (1, .int (iI t)), (2, .int (iI cc))] [0, 1, 2, 3] rfl (ih_2 (u + 1) (by omega) (by omega) (fun k h1 h2 => by
            by_cases hk : (k : Int) = u
            · have hk2 : k = u.toNat := by omega
              rw [hk2] at h2 ⊢
              omega
            · exact hv k (by omega) h2))
          · refine z_aload_n (j := 1) dX1_allow_26 rfl rfl ?_
            refine z_getf (i := 24) (ci := 1) (k := 1) (v := .ref (q 26)) dX1_allow_27 m_X1_allow_f15 in_X1_allow_X1 rfl (by decide) rfl (by omega) rfl rfl ?_
            refine z_iload_n (j := 0) dX1_allow_30 rfl rfl ?_
            refine z_iald (i := 26) (g := xa 15) 0 dX1_allow_31 (by omega) rfl rfl (by omega) (by omega) (by omega) ?_
            refine z_iload_n (j := 3) dX1_allow_32 rfl rfl ?_
            refine z_icmp_eq (tgt := 38) dX1_allow_33 (by decide) (by omega) (by omega) (fun c_33 => ?_) (fun c_33 => ?_)
            · refine z_iinc (j := 0) [(3, .int (iI (u + 1))), (0, .ref (q 24)), (1, .int (iI t)), (2, .int (iI cc))] dX1_allow_38 rfl (by decide) rfl ?_
              refine z_goto (tgt := 2) dX1_allow_41 (by decide) ?_
              exact z_sub [(3, .int (iI (u + 1))), (0, .ref (q 24)), (1, .int (iI t)), (2, .int (iI cc))] [0, 1, 2, 3] rfl (ih_2 (u + 1) (by omega) (by omega) (fun k h1 h2 => by
            by_cases hk : (k : Int) = u
            · have hk2 : k = u.toNat := by omega
              rw [hk2] at h2 ⊢
              omega
            · exact hv k (by omega) h2))
            · refine z_iconst dX1_allow_36 ?_
              exact z_zret dX1_allow_37 (Or.inl rfl) ⟨Or.inr ⟨(by exact fun hall => absurd (hall u.toNat (by omega) (by omega)) (by omega)), rfl⟩, rfl⟩
  exact z_sub [(3, .int (iI 0)), (0, .ref (q 24)), (1, .int (iI t)), (2, .int (iI cc))] [0, 1, 2, 3] rfl (hl_2 _ 0 (Nat.lt_succ_self _) (by omega) (fun k h1 h2 => absurd h1 (by omega)))
theorem m_X0_readActs_lmi22 : Cond.methodLink RX0 22 Lib.Math.min.name ∈ wsX0_readActs := List.mem_of_getElem? (i := 1) rfl
theorem m_X0_readActs_smi : Cond.static Lib.Math.min.name ∈ wsX0_readActs := List.mem_of_getElem? (i := 2) rfl
theorem m_X0_readActs_imi : Cond.initialized "java/lang/Math" ∈ wsX0_readActs := List.mem_of_getElem? (i := 3) rfl
theorem m_X0_readActs_kmi : Cond.code Lib.Math.min.name Lib.Math.min.code 2 (some .int) ∈ wsX0_readActs := List.mem_of_getElem? (i := 4) rfl
theorem m_X0_readActs_lma28 : Cond.methodLink RX0 28 Lib.Math.max.name ∈ wsX0_readActs := List.mem_of_getElem? (i := 5) rfl
theorem m_X0_readActs_sma : Cond.static Lib.Math.max.name ∈ wsX0_readActs := List.mem_of_getElem? (i := 6) rfl
theorem m_X0_readActs_ima : Cond.initialized "java/lang/Math" ∈ wsX0_readActs := List.mem_of_getElem? (i := 3) rfl
theorem m_X0_readActs_kma : Cond.code Lib.Math.max.name Lib.Math.max.code 2 (some .int) ∈ wsX0_readActs := List.mem_of_getElem? (i := 7) rfl
theorem m_X0_readActs_f31 : Cond.fieldLink RX0 31 "PoleBehind$Journey" "turns" "I" ∈ wsX0_readActs := List.mem_of_getElem? (i := 8) rfl
theorem in_X0_readActs_X0 : ∀ w ∈ wsX00, w ∈ wsX0_readActs := fun _ h => List.mem_cons_of_mem _ (List.mem_append_left _ (List.mem_append_right _ h))
theorem m_X0_readActs_f9 : Cond.fieldLink RX0 9 "PoleBehind$Journey" "acts" "[I" ∈ wsX0_readActs := List.mem_of_getElem? (i := 9) rfl
set_option maxHeartbeats 400000 in
set_option maxRecDepth 100000 in
theorem c_X0_readActs {l : Launch} {D : va_G} {cI cJ cZ cR : ClassId} {q : Nat → Nat} {w d : Nat} {xi : Nat → Int} {xa : Nat → Nat → Int} (hq : qOk 31 q) {j : Nat} {i nn : Int} (hj : j < 4) (hRow : RowOk xi xa j) (hi : 0 ≤ i ∧ 0 ≤ nn ∧ nn ≤ 18 ∧ i + nn ≤ xi (6 + j)) (hA : ∀ k : Nat, 0 ≤ xa 12 k ∧ xa 12 k ≤ 3) : Cti l D vwCl (tysC cI cJ cZ cR) 31 q yX0_readActs wsX0_readActs ({ frames := 2, cells := 0, slots := 0, locals := 42 } : Room) [.ref (q 21), .ref (q (2 + j)), .int (iI i), .int (iI nn)] (cX cI cJ cZ cR q w d xi xa) (fun (r : Int32) (g : Nat → va_E) => ∃ (xi' : Nat → Int) (xa' : Nat → Nat → Int), ((((∀ k : Nat, (k : Int) < nn → 0 ≤ xa j (i.toNat + k) ∧ xa j (i.toNat + k) ≤ 3) ∧ xi' = va_up xi 15 nn ∧ (∀ k, k ≠ 12 → xa' k = xa k) ∧ (∀ k : Nat, 0 ≤ xa' 12 k ∧ xa' 12 k ≤ 3) ∧ ∀ k : Nat, (k : Int) < nn → xa' 12 k = xa j (i.toNat + k)) ∧ r = iI 1) ∨ (((∃ k : Nat, (k : Int) < nn ∧ ¬ (0 ≤ xa j (i.toNat + k) ∧ xa j (i.toNat + k) ≤ 3)) ∧ xi' = va_up xi 15 nn ∧ (∀ k, k ≠ 12 → xa' k = xa k) ∧ ∀ k : Nat, 0 ≤ xa' 12 k ∧ xa' 12 k ≤ 3) ∧ r = iI 0)) ∧ g = (cX cI cJ cZ cR q w d xi' xa')) := by
  refine Cti.of (cc := cX0_readActs) (nL := 6) (own := RX0) (ret := (some .boolean)) (by decide) rfl rfl hq (Nat.le_of_ble_eq_true rfl) (fun p e s m args below meth c => ?_)
  obtain ⟨hrL, hrN, hrE⟩ := id hRow
  refine z_aload_n (j := 0) dX0_readActs_0 rfl rfl ?_
  refine z_iconst dX0_readActs_1 ?_
  refine z_iload_n (j := 3) dX0_readActs_2 rfl rfl ?_
  refine z_bipush dX0_readActs_3 (by decide) ?_
  refine z_mmin dX0_readActs_5 m_X0_readActs_lmi22 m_X0_readActs_smi m_X0_readActs_imi m_X0_readActs_kmi (Nat.le_of_ble_eq_true rfl) (Nat.le_of_ble_eq_true rfl) ⟨Nat.zero_le _, Nat.zero_le _⟩ (by omega) (by decide) ?_
  refine z_mmax dX0_readActs_8 m_X0_readActs_lma28 m_X0_readActs_sma m_X0_readActs_ima m_X0_readActs_kma (Nat.le_of_ble_eq_true rfl) (Nat.le_of_ble_eq_true rfl) ⟨Nat.zero_le _, Nat.zero_le _⟩ (by decide) (by omega) ?_
  refine z_putf (i := 21) (ci := 0) (k := 2) (cX cI cJ cZ cR q w d (va_up xi 15 (max 0 (min nn 18))) xa) dX0_readActs_11 m_X0_readActs_f31 in_X0_readActs_X0 rfl (by decide) rfl (by omega) rfl tyX0_ok nmX0 rfl rfl rfl (Nat.le_of_ble_eq_true rfl) lx_turns ?_
  refine z_iconst dX0_readActs_14 ?_
  refine z_istore [(4, .int (iI 0)), (0, .ref (q 21)), (1, .ref (q (2 + j))), (2, .int (iI i)), (3, .int (iI nn))] dX0_readActs_15 (by decide) rfl ?_
  have hl_17 : ∀ (N_17 : Nat) (u : Int) (ya : Nat → Nat → Int), (20 - u).toNat < N_17 → (0 ≤ u ∧ u ≤ nn) → (∀ k, k ≠ 12 → ya k = xa k) → (∀ k : Nat, 0 ≤ ya 12 k ∧ ya 12 k ≤ 3) → (∀ k : Nat, (k : Int) < u → (0 ≤ xa j (i.toNat + k) ∧ xa j (i.toNat + k) ≤ 3) ∧ ya 12 k = xa j (i.toNat + k)) → ZMi l D vwCl (tysC cI cJ cZ cR) 31 q ({ frames := 2, cells := 0, slots := 0, locals := 42 } : Room) cX0_readActs 6 RX0 wsX0_readActs (some .boolean) (fun (r : Int32) (g : Nat → va_E) => ∃ (xi' : Nat → Int) (xa' : Nat → Nat → Int), ((((∀ k : Nat, (k : Int) < nn → 0 ≤ xa j (i.toNat + k) ∧ xa j (i.toNat + k) ≤ 3) ∧ xi' = va_up xi 15 nn ∧ (∀ k, k ≠ 12 → xa' k = xa k) ∧ (∀ k : Nat, 0 ≤ xa' 12 k ∧ xa' 12 k ≤ 3) ∧ ∀ k : Nat, (k : Int) < nn → xa' 12 k = xa j (i.toNat + k)) ∧ r = iI 1) ∨ (((∃ k : Nat, (k : Int) < nn ∧ ¬ (0 ≤ xa j (i.toNat + k) ∧ xa j (i.toNat + k) ≤ 3)) ∧ xi' = va_up xi 15 nn ∧ (∀ k, k ≠ 12 → xa' k = xa k) ∧ ∀ k : Nat, 0 ≤ xa' 12 k ∧ xa' 12 k ≤ 3) ∧ r = iI 0)) ∧ g = (cX cI cJ cZ cR q w d xi' xa')) p e s m args below meth c (cX cI cJ cZ cR q w d (va_up xi 15 (max 0 (min nn 18))) ya) 17 [(4, .int (iI u)), (0, .ref (q 21)), (1, .ref (q (2 + j))), (2, .int (iI i)), (3, .int (iI nn))] [] := by
    intro N_17
    induction N_17 with
    | zero => intro u ya hm; exact absurd hm (Nat.not_lt_zero _)
    | succ N_17 ih_17 =>
      intro u ya hm_17 hu hy hyA hv
      have hrw : RowOk (va_up xi 15 (max 0 (min nn 18))) ya j := by
        unfold RowOk
        rw [up_n (by omega), up_n (by omega), hy j (by omega)]
        exact hRow
      have hmx : max 0 (min nn 18) = nn := by omega
      have hEu := hrE (i + u).toNat
      refine z_iload (j := 0) dX0_readActs_17 rfl ?_
      refine z_aload_n (j := 1) dX0_readActs_19 rfl rfl ?_
      refine z_getf (i := 21) (ci := 0) (k := 2) (v := .int (iI (max 0 (min nn 18)))) dX0_readActs_20 m_X0_readActs_f31 in_X0_readActs_X0 rfl (by decide) rfl (by omega) rfl rfl ?_
      refine z_icmp_ge (tgt := 64) dX0_readActs_23 (by decide) (by omega) (by omega) (fun c_23 => ?_) (fun c_23 => ?_)
      · refine z_iconst dX0_readActs_64 ?_
        exact z_zret dX0_readActs_65 (Or.inr rfl) ⟨_, _, Or.inl ⟨(by exact ⟨fun k hk => (hv k (by omega)).1, by rw [hmx], hy, hyA, fun k hk => (hv k (by omega)).2⟩), rfl⟩, rfl⟩
      · refine z_aload_n (j := 2) dX0_readActs_26 rfl rfl ?_
        refine z_iload_n (j := 3) dX0_readActs_27 rfl rfl ?_
        refine z_iload (j := 0) dX0_readActs_28 rfl ?_
        refine z_iadd dX0_readActs_30 ?_
        refine z_callVi (i := 2 + j) (ci := 3) (As := [.int (iI (i + u))]) (rest := []) (c_X3_at  hq hj hrw (by omega)) dX0_readActs_31 gX0_readActs_X3_at rfl cd_X3_at ⟨Nat.le_of_ble_eq_true rfl, Nat.le_of_ble_eq_true rfl⟩ rfl rfl (by omega) (cX_row hj) rfl rfl (Nat.le_of_ble_eq_true rfl) ⟨Nat.zero_le _, Nat.zero_le _⟩ (fun r_31 g_31 hp_31 => ?_)
        obtain ⟨⟨e_31, he_31, rfl⟩, rfl⟩ := hp_31
        rw [if_pos (show 0 ≤ i + u ∧ i + u < va_up xi 15 (max 0 (min nn 18)) (6 + j) by rw [up_n (by omega)]; omega), hy j (by omega)] at he_31
        refine z_istore [(5, .int (iI e_31)), (4, .int (iI u)), (0, .ref (q 21)), (1, .ref (q (2 + j))), (2, .int (iI i)), (3, .int (iI nn))] dX0_readActs_34 (by decide) rfl ?_
        refine z_iload (j := 0) dX0_readActs_36 rfl ?_
        refine z_if_lt (tgt := 47) dX0_readActs_38 (by decide) (by omega) (fun c_38 => ?_) (fun c_38 => ?_)
        · refine z_iconst dX0_readActs_47 ?_
          exact z_zret dX0_readActs_48 (Or.inl rfl) ⟨_, _, Or.inr ⟨(by exact ⟨⟨u.toNat, by omega, by rw [show i.toNat + u.toNat = (i + u).toNat by omega, ← he_31]; omega⟩, by rw [hmx], hy, hyA⟩), rfl⟩, rfl⟩
        · refine z_iload (j := 0) dX0_readActs_41 rfl ?_
          refine z_iconst dX0_readActs_43 ?_
          refine z_icmp_le (tgt := 49) dX0_readActs_44 (by decide) (by omega) (by decide) (fun c_44 => ?_) (fun c_44 => ?_)
          · refine z_aload_n (j := 2) dX0_readActs_49 rfl rfl ?_
            refine z_getf (i := 21) (ci := 0) (k := 0) (v := .ref (q 22)) dX0_readActs_50 m_X0_readActs_f9 in_X0_readActs_X0 rfl (by decide) rfl (by omega) rfl rfl ?_
            refine z_iload (j := 1) dX0_readActs_53 rfl ?_
            refine z_iload (j := 0) dX0_readActs_55 rfl ?_
            refine z_iast (i := 22) (g := ya 12) 0 (cX cI cJ cZ cR q w d (va_up xi 15 (max 0 (min nn 18))) (va_up ya 12 (va_up (ya 12) u.toNat e_31))) dX0_readActs_57 (by omega) rfl rfl (by omega) (by omega) (by omega) lx_acts ?_
            refine z_iinc (j := 1) [(4, .int (iI (u + 1))), (5, .int (iI e_31)), (0, .ref (q 21)), (1, .ref (q (2 + j))), (2, .int (iI i)), (3, .int (iI nn))] dX0_readActs_58 rfl (by decide) rfl ?_
            refine z_goto (tgt := 17) dX0_readActs_61 (by decide) ?_
            exact z_sub [(4, .int (iI (u + 1))), (0, .ref (q 21)), (1, .ref (q (2 + j))), (2, .int (iI i)), (3, .int (iI nn))] [0, 2, 3, 4, 5] rfl (ih_17 (u + 1) (va_up ya 12 (va_up (ya 12) u.toNat e_31)) (by omega) (by omega) (fun k hk => by rw [up_n hk]; exact hy k hk) (by rw [up_s]; exact up_rng hyA (by omega)) (fun k h1 => by
            rw [up_s]
            by_cases hk : k = u.toNat
            · rw [hk, up_s, show i.toNat + u.toNat = (i + u).toNat by omega, ← he_31]
              exact ⟨by omega, rfl⟩
            · rw [up_n hk]
              exact hv k (by omega)))
          · refine z_iconst dX0_readActs_47 ?_
            exact z_zret dX0_readActs_48 (Or.inl rfl) ⟨_, _, Or.inr ⟨(by exact ⟨⟨u.toNat, by omega, by rw [show i.toNat + u.toNat = (i + u).toNat by omega, ← he_31]; omega⟩, by rw [hmx], hy, hyA⟩), rfl⟩, rfl⟩
  exact z_sub [(4, .int (iI 0)), (0, .ref (q 21)), (1, .ref (q (2 + j))), (2, .int (iI i)), (3, .int (iI nn))] [0, 1, 2, 3, 4] rfl (hl_17 _ 0 xa (Nat.lt_succ_self _) (by omega) (fun k _ => rfl) (hA) (fun k h1 => absurd h1 (by omega)))
theorem m_X0_go_f46 : Cond.fieldLink RX0 46 "PoleBehind$Journey" "spot" "I" ∈ wsX0_go := List.mem_of_getElem? (i := 1) rfl
theorem in_X0_go_X0 : ∀ w ∈ wsX00, w ∈ wsX0_go := fun _ h => List.mem_cons_of_mem _ (List.mem_append_left _ (List.mem_append_right _ h))
theorem m_X0_go_f18 : Cond.fieldLink RX0 18 "PoleBehind$Journey" "firstWrong" "I" ∈ wsX0_go := List.mem_of_getElem? (i := 2) rfl
theorem m_X0_go_f31 : Cond.fieldLink RX0 31 "PoleBehind$Journey" "turns" "I" ∈ wsX0_go := List.mem_of_getElem? (i := 3) rfl
theorem m_X0_go_f9 : Cond.fieldLink RX0 9 "PoleBehind$Journey" "acts" "[I" ∈ wsX0_go := List.mem_of_getElem? (i := 4) rfl
theorem m_X0_go_f15 : Cond.fieldLink RX0 15 "PoleBehind$Journey" "cells" "[I" ∈ wsX0_go := List.mem_of_getElem? (i := 5) rfl
theorem nwm_X0_52 : Cond.methodLinkNest RX0 52 yX7_cellOf "PoleBehind" ∈ NWl := List.mem_of_getElem? (i := 18) rfl
theorem m_X0_go_st_X7_cellOf : Cond.static yX7_cellOf ∈ wsX0_go := List.mem_of_getElem? (i := 20) rfl
theorem m_X0_go_in_X7_cellOf : Cond.initialized yX7_cellOf.cls ∈ wsX0_go := List.mem_of_getElem? (i := 21) rfl
set_option maxHeartbeats 400000 in
set_option maxRecDepth 100000 in
theorem c_X0_go {l : Launch} {D : va_G} {cI cJ cZ cR : ClassId} {q : Nat → Nat} {w d : Nat} {xi : Nat → Int} {xa : Nat → Nat → Int} (hq : qOk 31 q) {b : Nat} (hb : b < 2) (hR : RvOk xi xa b) (hT : 0 ≤ xi 15 ∧ xi 15 ≤ 18) (hA : ∀ k : Nat, 0 ≤ xa 12 k ∧ xa 12 k ≤ 3) (hCe : ∀ k : Nat, 0 ≤ xa 13 k ∧ xa 13 k ≤ 15) : Ctv l D vwCl (tysC cI cJ cZ cR) 31 q yX0_go wsX0_go ({ frames := 3, cells := 0, slots := 0, locals := 70 } : Room) [.ref (q 21), .ref (q (10 + b))] (cX cI cJ cZ cR q w d xi xa) (fun (g : Nat → va_E) => ∃ (xi' : Nat → Int) (xa' : Nat → Nat → Int), (xi' 16 = (runS (rvX xi xa b) (xa 12) (xi (12 + b)) (xi 15).toNat).2 ∧ ((runS (rvX xi xa b) (xa 12) (xi (12 + b)) (xi 15).toNat).2 = -9 → xi' 17 = (runS (rvX xi xa b) (xa 12) (xi (12 + b)) (xi 15).toNat).1 ∧ ∀ k : Nat, (k : Int) < xi 15 → xa' 13 k = cellS (rvX xi xa b) (xa 12) (xi (12 + b)) k) ∧ (∀ k, k ≠ 16 → k ≠ 17 → xi' k = xi k) ∧ (∀ k, k ≠ 13 → xa' k = xa k) ∧ (∀ k : Nat, 0 ≤ xa' 13 k ∧ xa' 13 k ≤ 15) ∧ (0 ≤ xi' 17 ∧ xi' 17 < 64)) ∧ g = (cX cI cJ cZ cR q w d xi' xa')) := by
  refine Ctv.of (cc := cX0_go) (nL := 4) (own := RX0) (ret := none) (by decide) rfl rfl hq (Nat.le_of_ble_eq_true rfl) (fun p e s m args below meth c => ?_)
  obtain ⟨hN, hP, hK, hM, hD, hB⟩ := id hR
  have hn16 : rN (rvX xi xa b) ≤ 16 := hN.2
  refine z_aload_n (j := 0) dX0_go_0 rfl rfl ?_
  refine z_aload_n (j := 1) dX0_go_1 rfl rfl ?_
  refine z_callVi (i := 10 + b) (ci := 2) (As := []) (rest := [.ref (q 21)]) (c_X2_start  hq hb hR) dX0_go_2 gX0_go_X2_start rfl cd_X2_start ⟨Nat.le_of_ble_eq_true rfl, Nat.le_of_ble_eq_true rfl⟩ rfl rfl (by omega) (cX_rv hb) rfl rfl (Nat.le_of_ble_eq_true rfl) ⟨Nat.zero_le _, Nat.zero_le _⟩ (fun r_2 g_2 hp_2 => ?_)
  obtain ⟨⟨_, rfl, rfl⟩, rfl⟩ := hp_2
  refine z_putf (i := 21) (ci := 0) (k := 4) (cX cI cJ cZ cR q w d (va_up xi 17 (xi (12 + b))) xa) dX0_go_5 m_X0_go_f46 in_X0_go_X0 rfl (by decide) rfl (by omega) rfl tyX0_ok nmX0 rfl rfl rfl (Nat.le_of_ble_eq_true rfl) lx_spot ?_
  refine z_aload_n (j := 0) dX0_go_8 rfl rfl ?_
  refine z_bipush dX0_go_9 (by decide) ?_
  refine z_putf (i := 21) (ci := 0) (k := 3) (cX cI cJ cZ cR q w d (va_up (va_up xi 17 (xi (12 + b))) 16 (-9)) xa) dX0_go_11 m_X0_go_f18 in_X0_go_X0 rfl (by decide) rfl (by omega) rfl tyX0_ok nmX0 rfl rfl rfl (Nat.le_of_ble_eq_true rfl) lx_wrong ?_
  refine z_iconst dX0_go_14 ?_
  refine z_istore_n [(2, .int (iI 0)), (0, .ref (q 21)), (1, .ref (q (10 + b)))] dX0_go_15 rfl (by decide) rfl ?_
  have hl_16 : ∀ (N_16 : Nat) (u : Int) (yi : Nat → Int) (ya : Nat → Nat → Int), (20 - u).toNat < N_16 → (0 ≤ u ∧ u ≤ xi 15) → (yi 16 = -9) → (yi 17 = (runS (rvX xi xa b) (xa 12) (xi (12 + b)) u.toNat).1) → ((runS (rvX xi xa b) (xa 12) (xi (12 + b)) u.toNat).2 = -9) → (∀ k, k ≠ 16 → k ≠ 17 → yi k = xi k) → (∀ k, k ≠ 13 → ya k = xa k) → (∀ k : Nat, 0 ≤ ya 13 k ∧ ya 13 k ≤ 15) → (∀ k : Nat, (k : Int) < u → ya 13 k = cellS (rvX xi xa b) (xa 12) (xi (12 + b)) k) → ZMv l D vwCl (tysC cI cJ cZ cR) 31 q ({ frames := 3, cells := 0, slots := 0, locals := 70 } : Room) cX0_go 4 RX0 wsX0_go none (fun (g : Nat → va_E) => ∃ (xi' : Nat → Int) (xa' : Nat → Nat → Int), (xi' 16 = (runS (rvX xi xa b) (xa 12) (xi (12 + b)) (xi 15).toNat).2 ∧ ((runS (rvX xi xa b) (xa 12) (xi (12 + b)) (xi 15).toNat).2 = -9 → xi' 17 = (runS (rvX xi xa b) (xa 12) (xi (12 + b)) (xi 15).toNat).1 ∧ ∀ k : Nat, (k : Int) < xi 15 → xa' 13 k = cellS (rvX xi xa b) (xa 12) (xi (12 + b)) k) ∧ (∀ k, k ≠ 16 → k ≠ 17 → xi' k = xi k) ∧ (∀ k, k ≠ 13 → xa' k = xa k) ∧ (∀ k : Nat, 0 ≤ xa' 13 k ∧ xa' 13 k ≤ 15) ∧ (0 ≤ xi' 17 ∧ xi' 17 < 64)) ∧ g = (cX cI cJ cZ cR q w d xi' xa')) p e s m args below meth c (cX cI cJ cZ cR q w d yi ya) 16 [(2, .int (iI u)), (0, .ref (q 21)), (1, .ref (q (10 + b)))] [] := by
    intro N_16
    induction N_16 with
    | zero => intro u yi ya hm; exact absurd hm (Nat.not_lt_zero _)
    | succ N_16 ih_16 =>
      intro u yi ya hm_16 hu h16 h17 hw hyi hya hyc hcs
      have hRy := RvOk_eq (hyi (10 + b) (by omega) (by omega)) (hyi (12 + b) (by omega) (by omega)) (hya (4 + b) (by omega)) (hya (6 + b) (by omega)) (hya (8 + b) (by omega)) (hya (10 + b) (by omega)) hR
      have hRe := rvX_eq (hyi (10 + b) (by omega) (by omega)) (hya (4 + b) (by omega)) (hya (6 + b) (by omega)) (hya (8 + b) (by omega)) (hya (10 + b) (by omega))
      have hsp := runS_rng (g := xa 12) hn16 (show 0 ≤ xi (12 + b) ∧ xi (12 + b) < 64 by omega) u.toNat
      have hTe := hyi 15 (by decide) (by decide)
      have hAu := hA u.toNat
      have hye := hya 12 (by decide)
      have har := aftA_rng (act := ya 12 u.toNat) (s := yi 17) hn16 (by omega)
      rw [← hRe] at har
      rw [← hye] at hAu
      refine z_iload_n (j := 0) dX0_go_16 rfl rfl ?_
      refine z_aload_n (j := 1) dX0_go_17 rfl rfl ?_
      refine z_getf (i := 21) (ci := 0) (k := 2) (v := .int (iI (yi 15))) dX0_go_18 m_X0_go_f31 in_X0_go_X0 rfl (by decide) rfl (by omega) rfl rfl ?_
      refine z_icmp_ge (tgt := 74) dX0_go_21 (by decide) (by omega) (by omega) (fun c_21 => ?_) (fun c_21 => ?_)
      · exact z_vret dX0_go_74 ⟨_, _, (by
      have hue : u.toNat = (xi 15).toNat := by omega
      rw [← hue]
      exact ⟨by rw [h16, hw], fun _ => ⟨h17, fun k hk => hcs k (by omega)⟩, hyi, hya, hyc, by omega⟩), rfl⟩
      · refine z_aload_n (j := 2) dX0_go_24 rfl rfl ?_
        refine z_aload_n (j := 1) dX0_go_25 rfl rfl ?_
        refine z_getf (i := 21) (ci := 0) (k := 4) (v := .int (iI (yi 17))) dX0_go_26 m_X0_go_f46 in_X0_go_X0 rfl (by decide) rfl (by omega) rfl rfl ?_
        refine z_aload_n (j := 1) dX0_go_29 rfl rfl ?_
        refine z_getf (i := 21) (ci := 0) (k := 0) (v := .ref (q 22)) dX0_go_30 m_X0_go_f9 in_X0_go_X0 rfl (by decide) rfl (by omega) rfl rfl ?_
        refine z_iload_n (j := 0) dX0_go_33 rfl rfl ?_
        refine z_iald (i := 22) (g := ya 12) 0 dX0_go_34 (by omega) rfl rfl (by omega) (by omega) (by omega) ?_
        refine z_callVi (i := 10 + b) (ci := 2) (As := [.int (iI (yi 17)), .int (iI (ya 12 u.toNat))]) (rest := []) (c_X2_after  hq hb hRy (by omega) (by omega)) dX0_go_35 gX0_go_X2_after rfl cd_X2_after ⟨Nat.le_of_ble_eq_true rfl, Nat.le_of_ble_eq_true rfl⟩ rfl rfl (by omega) (cX_rv hb) rfl rfl (Nat.le_of_ble_eq_true rfl) ⟨Nat.zero_le _, Nat.zero_le _⟩ (fun r_35 g_35 hp_35 => ?_)
        obtain ⟨⟨_, rfl, rfl⟩, rfl⟩ := hp_35
        refine z_istore_n [(3, .int (iI (aftA (rvX yi ya b) (ya 12 u.toNat) (yi 17)))), (2, .int (iI u)), (0, .ref (q 21)), (1, .ref (q (10 + b)))] dX0_go_38 rfl (by decide) rfl ?_
        refine z_iload_n (j := 0) dX0_go_39 rfl rfl ?_
        refine z_iconst dX0_go_40 ?_
        refine z_icmp_ne (tgt := 50) dX0_go_41 (by decide) (by omega) (by decide) (fun c_41 => ?_) (fun c_41 => ?_)
        · refine z_aload_n (j := 2) dX0_go_50 rfl rfl ?_
          refine z_getf (i := 21) (ci := 0) (k := 1) (v := .ref (q 23)) dX0_go_51 m_X0_go_f15 in_X0_go_X0 rfl (by decide) rfl (by omega) rfl rfl ?_
          refine z_iload_n (j := 1) dX0_go_54 rfl rfl ?_
          refine z_aload_n (j := 2) dX0_go_55 rfl rfl ?_
          refine z_getf (i := 21) (ci := 0) (k := 4) (v := .int (iI (yi 17))) dX0_go_56 m_X0_go_f46 in_X0_go_X0 rfl (by decide) rfl (by omega) rfl rfl ?_
          refine z_callNi (As := [.int (iI (yi 17))]) (rest := [.int (iI u), .ref (q 23)]) (c_X7_cellOf  hq (by omega)) dX0_go_59 gX0_go_X7_cellOf_n52 nwm_X0_52 m_X0_go_st_X7_cellOf m_X0_go_in_X7_cellOf rfl cd_X7_cellOf ⟨Nat.le_of_ble_eq_true rfl, Nat.le_of_ble_eq_true rfl⟩ rfl rfl rfl (Nat.le_of_ble_eq_true rfl) ⟨Nat.zero_le _, Nat.zero_le _⟩ (fun r_59 g_59 hp_59 => ?_)
          obtain ⟨⟨_, rfl, rfl⟩, rfl⟩ := hp_59
          refine z_iast (i := 23) (g := ya 13) 0 (cX cI cJ cZ cR q w d yi (va_up ya 13 (va_up (ya 13) u.toNat ((yi 17) / 4)))) dX0_go_62 (by omega) rfl rfl (by omega) (by omega) (by omega) lx_jcells ?_
          refine z_aload_n (j := 2) dX0_go_63 rfl rfl ?_
          refine z_iload_n (j := 0) dX0_go_64 rfl rfl ?_
          refine z_putf (i := 21) (ci := 0) (k := 4) (cX cI cJ cZ cR q w d (va_up yi 17 (aftA (rvX yi ya b) (ya 12 u.toNat) (yi 17))) (va_up ya 13 (va_up (ya 13) u.toNat ((yi 17) / 4)))) dX0_go_65 m_X0_go_f46 in_X0_go_X0 rfl (by decide) rfl (by omega) rfl tyX0_ok nmX0 rfl rfl rfl (Nat.le_of_ble_eq_true rfl) lx_spot ?_
          refine z_iinc (j := 1) [(2, .int (iI (u + 1))), (3, .int (iI (aftA (rvX yi ya b) (ya 12 u.toNat) (yi 17)))), (0, .ref (q 21)), (1, .ref (q (10 + b)))] dX0_go_68 rfl (by decide) rfl ?_
          refine z_goto (tgt := 16) dX0_go_71 (by decide) ?_
          exact z_sub [(2, .int (iI (u + 1))), (0, .ref (q 21)), (1, .ref (q (10 + b)))] [0, 2, 3] rfl (ih_16 (u + 1) (va_up yi 17 (aftA (rvX yi ya b) (ya 12 u.toNat) (yi 17))) (va_up ya 13 (va_up (ya 13) u.toNat ((yi 17) / 4))) (by omega) (by omega) (by rw [up_n (by decide)]; exact h16) (by rw [up_s, stepN hu.1, runS_go hw (by rw [← h17, ← hRe, ← hye]; exact c_41), ← h17, ← hRe, ← hye]) (by rw [stepN hu.1, runS_go hw (by rw [← h17, ← hRe, ← hye]; exact c_41)]) (fun k h1 h2 => by rw [up_n h2]; exact hyi k h1 h2) (fun k h1 => by rw [up_n h1]; exact hya k h1) (by rw [up_s]; exact up_rng hyc (by omega)) (fun k h1 => by
            rw [up_s]
            by_cases hk : k = u.toNat
            · rw [hk, up_s, h17]; rfl
            · rw [up_n hk]; exact hcs k (by omega)))
        · refine z_aload_n (j := 2) dX0_go_44 rfl rfl ?_
          refine z_iload_n (j := 1) dX0_go_45 rfl rfl ?_
          refine z_putf (i := 21) (ci := 0) (k := 3) (cX cI cJ cZ cR q w d (va_up yi 16 u) ya) dX0_go_46 m_X0_go_f18 in_X0_go_X0 rfl (by decide) rfl (by omega) rfl tyX0_ok nmX0 rfl rfl rfl (Nat.le_of_ble_eq_true rfl) lx_wrong ?_
          exact z_vret dX0_go_49 ⟨_, _, (by
      have hno := runS_no hw (show aftA (rvX xi xa b) (xa 12 u.toNat) (runS (rvX xi xa b) (xa 12) (xi (12 + b)) u.toNat).1 = -1 by rw [← h17, ← hRe, ← hye]; omega)
      have hst := runS_stuck (show 0 ≤ (runS (rvX xi xa b) (xa 12) (xi (12 + b)) (u.toNat + 1)).2 by rw [hno]; show (0 : Int) ≤ ((u.toNat : Nat) : Int); omega) ((xi 15).toNat - (u.toNat + 1))
      rw [show u.toNat + 1 + ((xi 15).toNat - (u.toNat + 1)) = (xi 15).toNat by omega, hno] at hst
      rw [hst]
      refine ⟨by rw [up_s]; show u = ((u.toNat : Nat) : Int); omega, fun h => absurd h (by show ¬ ((u.toNat : Nat) : Int) = -9; omega), fun k h1 h2 => by rw [up_n h1]; exact hyi k h1 h2, hya, hyc, by rw [up_n (by decide)]; omega⟩), rfl⟩
  exact z_sub [(2, .int (iI 0)), (0, .ref (q 21)), (1, .ref (q (10 + b)))] [0, 1, 2] rfl (hl_16 _ 0 (va_up (va_up xi 17 (xi (12 + b))) 16 (-9)) xa (Nat.lt_succ_self _) (by omega) (up_s) (by rw [up_n (by decide), up_s]; rfl) (rfl) (fun k h1 h2 => by rw [up_n h1, up_n h2]) (fun k _ => rfl) (hCe) (fun k h1 => absurd h1 (by omega)))
theorem m_X0_dryParts_f31 : Cond.fieldLink RX0 31 "PoleBehind$Journey" "turns" "I" ∈ wsX0_dryParts := List.mem_of_getElem? (i := 1) rfl
theorem in_X0_dryParts_X0 : ∀ w ∈ wsX00, w ∈ wsX0_dryParts := fun _ h => List.mem_cons_of_mem _ (List.mem_append_left _ (List.mem_append_right _ h))
theorem m_X0_dryParts_f15 : Cond.fieldLink RX0 15 "PoleBehind$Journey" "cells" "[I" ∈ wsX0_dryParts := List.mem_of_getElem? (i := 2) rfl
theorem m_X0_dryParts_f9 : Cond.fieldLink RX0 9 "PoleBehind$Journey" "acts" "[I" ∈ wsX0_dryParts := List.mem_of_getElem? (i := 3) rfl
theorem cd_X2_holdsIn : yX2_holdsIn.cls = RX2 ∧ yX2_holdsIn.cls ≠ "java/lang/invoke/MethodHandle" ∧ yX2_holdsIn.cls ≠ "java/lang/invoke/VarHandle" ∧ (parseMethodDescriptor yX2_holdsIn.desc).map (fun d => d.parameters.length) = some 1 := ⟨rfl, by decide +kernel, by decide +kernel, by decide +kernel⟩
theorem cd_X7_dryTenths : yX7_dryTenths.cls ≠ "java/lang/invoke/MethodHandle" ∧ yX7_dryTenths.cls ≠ "java/lang/invoke/VarHandle" ∧ (parseMethodDescriptor yX7_dryTenths.desc).map (fun d => d.parameters.length) = some 2 := ⟨by decide +kernel, by decide +kernel, by decide +kernel⟩
theorem nwm_X0_58 : Cond.methodLinkNest RX0 58 yX7_dryTenths "PoleBehind" ∈ NWl := List.mem_of_getElem? (i := 19) rfl
theorem m_X0_dryParts_st_X7_dryTenths : Cond.static yX7_dryTenths ∈ wsX0_dryParts := List.mem_of_getElem? (i := 33) rfl
theorem m_X0_dryParts_in_X7_dryTenths : Cond.initialized yX7_dryTenths.cls ∈ wsX0_dryParts := List.mem_of_getElem? (i := 34) rfl
set_option maxHeartbeats 400000 in
set_option maxRecDepth 100000 in
theorem c_X0_dryParts {l : Launch} {D : va_G} {cI cJ cZ cR : ClassId} {q : Nat → Nat} {w d : Nat} {xi : Nat → Int} {xa : Nat → Nat → Int} (hq : qOk 31 q) {b : Nat} {ch hh : Int} (hb : b < 2) (hR : RvOk xi xa b) (hT : 0 ≤ xi 15 ∧ xi 15 ≤ 18) (hA : ∀ k : Nat, 0 ≤ xa 12 k ∧ xa 12 k ≤ 3) (hCe : ∀ k : Nat, (k : Int) < xi 15 → 0 ≤ xa 13 k ∧ xa 13 k < xi (10 + b)) (hch : -2147483648 ≤ ch ∧ ch < 2147483648) (hhh : 0 ≤ hh ∧ hh ≤ 9) : Ctl l D vwCl (tysC cI cJ cZ cR) 31 q yX0_dryParts wsX0_dryParts ({ frames := 3, cells := 0, slots := 0, locals := 65 } : Room) [.ref (q 21), .ref (q (10 + b)), .int (iI ch), .int (iI hh)] (cX cI cJ cZ cR q w d xi xa) (fun (r : Int64) (g : Nat → va_E) => (∃ e : Int, (e = prodT (fun t => dten (xa 12 t) (if xa 13 t = ch then hh else hold (rvX xi xa b) (xa 13 t).toNat)) (xi 15).toNat) ∧ r = lI e) ∧ g = (cX cI cJ cZ cR q w d xi xa)) := by
  refine Ctl.of (cc := cX0_dryParts) (nL := 8) (own := RX0) (ret := (some .long)) (by decide) rfl rfl hq (Nat.le_of_ble_eq_true rfl) (fun p e s m args below meth c => ?_)
  obtain ⟨hN, hP, hK, hM, hD, hB⟩ := id hR
  have hhr : ∀ c : Nat, 0 ≤ hold (rvX xi xa b) c ∧ hold (rvX xi xa b) c ≤ 9 := fun c => hold_rng (by
    show 0 ≤ nrm (xi (10 + b)) (xa (6 + b)) c ∧ nrm (xi (10 + b)) (xa (6 + b)) c ≤ 9
    unfold nrm
    split
    · exact hM c
    · omega)
  have hfr : ∀ t : Nat, 1 ≤ dten (xa 12 t) (if xa 13 t = ch then hh else hold (rvX xi xa b) (xa 13 t).toNat) ∧ dten (xa 12 t) (if xa 13 t = ch then hh else hold (rvX xi xa b) (xa 13 t).toNat) ≤ 10 := fun t => dten_rng (by
    split
    · exact hhh
    · exact hhr _)
  refine z_lconst (z := 1) dX0_dryParts_0 (by decide) ?_
  refine z_lstore [(4, .long (lI 1)), (0, .ref (q 21)), (1, .ref (q (10 + b))), (2, .int (iI ch)), (3, .int (iI hh))] dX0_dryParts_1 (by decide) rfl ?_
  refine z_iconst dX0_dryParts_3 ?_
  refine z_istore [(6, .int (iI 0)), (4, .long (lI 1)), (0, .ref (q 21)), (1, .ref (q (10 + b))), (2, .int (iI ch)), (3, .int (iI hh))] dX0_dryParts_4 (by decide) rfl ?_
  have hl_6 : ∀ (N_6 : Nat) (u : Int) (pr : Int), (20 - u).toNat < N_6 → (0 ≤ u ∧ u ≤ xi 15) → (pr = prodT (fun t => dten (xa 12 t) (if xa 13 t = ch then hh else hold (rvX xi xa b) (xa 13 t).toNat)) u.toNat) → ZMl l D vwCl (tysC cI cJ cZ cR) 31 q ({ frames := 3, cells := 0, slots := 0, locals := 65 } : Room) cX0_dryParts 8 RX0 wsX0_dryParts (some .long) (fun (r : Int64) (g : Nat → va_E) => (∃ e : Int, (e = prodT (fun t => dten (xa 12 t) (if xa 13 t = ch then hh else hold (rvX xi xa b) (xa 13 t).toNat)) (xi 15).toNat) ∧ r = lI e) ∧ g = (cX cI cJ cZ cR q w d xi xa)) p e s m args below meth c (cX cI cJ cZ cR q w d xi xa) 6 [(6, .int (iI u)), (4, .long (lI pr)), (0, .ref (q 21)), (1, .ref (q (10 + b))), (2, .int (iI ch)), (3, .int (iI hh))] [] := by
    intro N_6
    induction N_6 with
    | zero => intro u pr hm; exact absurd hm (Nat.not_lt_zero _)
    | succ N_6 ih_6 =>
      intro u pr hm_6 hu hpr
      have hAu := hA u.toNat
      have hCu := hCe u.toNat
      have hHu := hhr (xa 13 u.toNat).toNat
      refine z_iload (j := 0) dX0_dryParts_6 rfl ?_
      refine z_aload_n (j := 2) dX0_dryParts_8 rfl rfl ?_
      refine z_getf (i := 21) (ci := 0) (k := 2) (v := .int (iI (xi 15))) dX0_dryParts_9 m_X0_dryParts_f31 in_X0_dryParts_X0 rfl (by decide) rfl (by omega) rfl rfl ?_
      refine z_icmp_ge (tgt := 62) dX0_dryParts_12 (by decide) (by omega) (by omega) (fun c_12 => ?_) (fun c_12 => ?_)
      · refine z_lload (j := 1) dX0_dryParts_62 rfl ?_
        exact z_lret dX0_dryParts_64 ⟨⟨_, (by rw [hpr, show u.toNat = (xi 15).toNat by omega]), rfl⟩, rfl⟩
      · refine z_aload_n (j := 2) dX0_dryParts_15 rfl rfl ?_
        refine z_getf (i := 21) (ci := 0) (k := 1) (v := .ref (q 23)) dX0_dryParts_16 m_X0_dryParts_f15 in_X0_dryParts_X0 rfl (by decide) rfl (by omega) rfl rfl ?_
        refine z_iload (j := 0) dX0_dryParts_19 rfl ?_
        refine z_iald (i := 23) (g := xa 13) 0 dX0_dryParts_21 (by omega) rfl rfl (by omega) (by omega) (by omega) ?_
        refine z_istore [(7, .int (iI (xa 13 u.toNat))), (6, .int (iI u)), (4, .long (lI pr)), (0, .ref (q 21)), (1, .ref (q (10 + b))), (2, .int (iI ch)), (3, .int (iI hh))] dX0_dryParts_22 (by decide) rfl ?_
        refine z_lload (j := 2) dX0_dryParts_24 rfl ?_
        refine z_aload_n (j := 3) dX0_dryParts_26 rfl rfl ?_
        refine z_getf (i := 21) (ci := 0) (k := 0) (v := .ref (q 22)) dX0_dryParts_27 m_X0_dryParts_f9 in_X0_dryParts_X0 rfl (by decide) rfl (by omega) rfl rfl ?_
        refine z_iload (j := 1) dX0_dryParts_30 rfl ?_
        refine z_iald (i := 22) (g := xa 12) 0 dX0_dryParts_32 (by omega) rfl rfl (by omega) (by omega) (by omega) ?_
        refine z_iload (j := 0) dX0_dryParts_33 rfl ?_
        refine z_iload_n (j := 5) dX0_dryParts_35 rfl rfl ?_
        refine z_icmp_ne (tgt := 43) dX0_dryParts_36 (by decide) (by omega) (by omega) (fun c_36 => ?_) (fun c_36 => ?_)
        · refine z_aload_n (j := 4) dX0_dryParts_43 rfl rfl ?_
          refine z_iload (j := 0) dX0_dryParts_44 rfl ?_
          refine z_callVi (i := 10 + b) (ci := 2) (As := [.int (iI (xa 13 u.toNat))]) (rest := [.int (iI (xa 12 u.toNat)), .long (lI pr)]) (c_X2_holdsIn  hq hb hR (by omega)) dX0_dryParts_46 gX0_dryParts_X2_holdsIn rfl cd_X2_holdsIn ⟨Nat.le_of_ble_eq_true rfl, Nat.le_of_ble_eq_true rfl⟩ rfl rfl (by omega) (cX_rv hb) rfl rfl (Nat.le_of_ble_eq_true rfl) ⟨Nat.zero_le _, Nat.zero_le _⟩ (fun r_46 g_46 hp_46 => ?_)
          obtain ⟨⟨_, rfl, rfl⟩, rfl⟩ := hp_46
          refine z_callNi (As := [.int (iI (xa 12 u.toNat)), .int (iI (hold (rvX xi xa b) (xa 13 u.toNat).toNat))]) (rest := [.long (lI pr)]) (c_X7_dryTenths  hq (by omega) (by omega)) dX0_dryParts_49 gX0_dryParts_X7_dryTenths_n58 nwm_X0_58 m_X0_dryParts_st_X7_dryTenths m_X0_dryParts_in_X7_dryTenths rfl cd_X7_dryTenths ⟨Nat.le_of_ble_eq_true rfl, Nat.le_of_ble_eq_true rfl⟩ rfl rfl rfl (Nat.le_of_ble_eq_true rfl) ⟨Nat.zero_le _, Nat.zero_le _⟩ (fun r_49 g_49 hp_49 => ?_)
          obtain ⟨⟨e_49, he_49, rfl⟩, rfl⟩ := hp_49
          refine z_i2l dX0_dryParts_52 (by omega) ?_
          refine z_lmul dX0_dryParts_53 ?_
          refine z_lstore [(4, .long (lI (pr * e_49))), (7, .int (iI (xa 13 u.toNat))), (6, .int (iI u)), (0, .ref (q 21)), (1, .ref (q (10 + b))), (2, .int (iI ch)), (3, .int (iI hh))] dX0_dryParts_54 (by decide) rfl ?_
          refine z_iinc (j := 2) [(6, .int (iI (u + 1))), (4, .long (lI (pr * e_49))), (7, .int (iI (xa 13 u.toNat))), (0, .ref (q 21)), (1, .ref (q (10 + b))), (2, .int (iI ch)), (3, .int (iI hh))] dX0_dryParts_56 rfl (by decide) rfl ?_
          refine z_goto (tgt := 6) dX0_dryParts_59 (by decide) ?_
          exact z_sub [(6, .int (iI (u + 1))), (4, .long (lI (pr * e_49))), (0, .ref (q 21)), (1, .ref (q (10 + b))), (2, .int (iI ch)), (3, .int (iI hh))] [0, 1, 3, 4, 5, 6] rfl (ih_6 (u + 1) (pr * e_49) (by omega) (by omega) (by
            rw [stepN hu.1, prodT, ← hpr, he_49]
            show pr * (if xa 12 u.toNat = 0 then _ else _) = pr * dten _ _
            unfold dten
            first | rw [if_pos (show xa 13 u.toNat = ch from c_36)] | rw [if_neg (show ¬ xa 13 u.toNat = ch from c_36)]))
        · refine z_iload_n (j := 6) dX0_dryParts_39 rfl rfl ?_
          refine z_goto (tgt := 49) dX0_dryParts_40 (by decide) ?_
          refine z_callNi (As := [.int (iI (xa 12 u.toNat)), .int (iI hh)]) (rest := [.long (lI pr)]) (c_X7_dryTenths  hq (by omega) (by omega)) dX0_dryParts_49 gX0_dryParts_X7_dryTenths_n58 nwm_X0_58 m_X0_dryParts_st_X7_dryTenths m_X0_dryParts_in_X7_dryTenths rfl cd_X7_dryTenths ⟨Nat.le_of_ble_eq_true rfl, Nat.le_of_ble_eq_true rfl⟩ rfl rfl rfl (Nat.le_of_ble_eq_true rfl) ⟨Nat.zero_le _, Nat.zero_le _⟩ (fun r_49 g_49 hp_49 => ?_)
          obtain ⟨⟨e_49, he_49, rfl⟩, rfl⟩ := hp_49
          refine z_i2l dX0_dryParts_52 (by omega) ?_
          refine z_lmul dX0_dryParts_53 ?_
          refine z_lstore [(4, .long (lI (pr * e_49))), (7, .int (iI (xa 13 u.toNat))), (6, .int (iI u)), (0, .ref (q 21)), (1, .ref (q (10 + b))), (2, .int (iI ch)), (3, .int (iI hh))] dX0_dryParts_54 (by decide) rfl ?_
          refine z_iinc (j := 2) [(6, .int (iI (u + 1))), (4, .long (lI (pr * e_49))), (7, .int (iI (xa 13 u.toNat))), (0, .ref (q 21)), (1, .ref (q (10 + b))), (2, .int (iI ch)), (3, .int (iI hh))] dX0_dryParts_56 rfl (by decide) rfl ?_
          refine z_goto (tgt := 6) dX0_dryParts_59 (by decide) ?_
          exact z_sub [(6, .int (iI (u + 1))), (4, .long (lI (pr * e_49))), (0, .ref (q 21)), (1, .ref (q (10 + b))), (2, .int (iI ch)), (3, .int (iI hh))] [0, 1, 3, 4, 5, 6] rfl (ih_6 (u + 1) (pr * e_49) (by omega) (by omega) (by
            rw [stepN hu.1, prodT, ← hpr, he_49]
            show pr * (if xa 12 u.toNat = 0 then _ else _) = pr * dten _ _
            unfold dten
            first | rw [if_pos (show xa 13 u.toNat = ch from c_36)] | rw [if_neg (show ¬ xa 13 u.toNat = ch from c_36)]))
  exact z_sub [(6, .int (iI 0)), (4, .long (lI 1)), (0, .ref (q 21)), (1, .ref (q (10 + b))), (2, .int (iI ch)), (3, .int (iI hh))] [0, 1, 2, 3, 4, 5] rfl (hl_6 _ 0 1 (Nat.lt_succ_self _) (by omega) (rfl))
theorem m_J6_bitCount_0f7a4_c265 : Cond.constant RJ6 265 (iI (1431655765)) ∈ wsJ6_bitCount_0f7a4 := List.mem_of_getElem? (i := 1) (by decide +kernel)
theorem m_J6_bitCount_0f7a4_c266 : Cond.constant RJ6 266 (iI (858993459)) ∈ wsJ6_bitCount_0f7a4 := List.mem_of_getElem? (i := 2) (by decide +kernel)
theorem m_J6_bitCount_0f7a4_c267 : Cond.constant RJ6 267 (iI (252645135)) ∈ wsJ6_bitCount_0f7a4 := List.mem_of_getElem? (i := 3) (by decide +kernel)
set_option maxHeartbeats 400000 in
set_option maxRecDepth 100000 in
theorem c_J6_bitCount_0f7a4 {l : Launch} {D : va_G} {cI cJ cZ cR : ClassId} {q : Nat → Nat} {w d : Nat} {xi : Nat → Int} {xa : Nat → Nat → Int} (hq : qOk 31 q) {mm : Nat} (hm : mm < 65536) : Cti l D vwCl (tysC cI cJ cZ cR) 31 q yJ6_bitCount_0f7a4 wsJ6_bitCount_0f7a4 ({ frames := 0, cells := 0, slots := 0, locals := 0 } : Room) [.int (iI ((mm : Nat) : Int))] (cX cI cJ cZ cR q w d xi xa) (fun (r : Int32) (g : Nat → va_E) => (∃ e : Int, (e = ((popN mm : Nat) : Int)) ∧ r = iI e) ∧ g = (cX cI cJ cZ cR q w d xi xa)) := by
  refine Cti.of (cc := cJ6_bitCount_0f7a4) (nL := 1) (own := RJ6) (ret := (some .int)) (by decide) rfl rfl hq (Nat.le_of_ble_eq_true rfl) (fun p e s m args below meth c => ?_)
  have ha1 : mm / 2 &&& 1431655765 ≤ mm / 2 := Nat.and_le_left
  have hb1 : bc1 mm ≤ mm := Nat.sub_le _ _
  have hb2a : bc1 mm &&& 858993459 ≤ bc1 mm := Nat.and_le_left
  have hb2b : bc1 mm / 4 &&& 858993459 ≤ bc1 mm / 4 := Nat.and_le_left
  have hb2 : bc2 mm ≤ 2 * mm := by rw [show bc2 mm = (bc1 mm &&& 858993459) + (bc1 mm / 4 &&& 858993459) from rfl]; omega
  have hb3 : bc3 mm ≤ bc2 mm + bc2 mm / 16 := Nat.and_le_left
  have hb4 : bc4 mm ≤ 2 * bc3 mm := by rw [show bc4 mm = bc3 mm + bc3 mm / 256 from rfl]; omega
  refine z_iload_n (j := 0) dJ6_bitCount_0f7a4_0 rfl rfl ?_
  refine z_iload_n (j := 0) dJ6_bitCount_0f7a4_1 rfl rfl ?_
  refine z_iconst dJ6_bitCount_0f7a4_2 ?_
  refine z_iushr (iI ((mm / 2 : Nat) : Int)) dJ6_bitCount_0f7a4_3 (by
    have h1 : iI 1 = nI 1 := rfl
    rw [h1, ← iI_nI, ← iI_nI]
    exact pk_ushrN (by omega) _ 1 (by decide +kernel)) ?_
  refine z_ldcw dJ6_bitCount_0f7a4_4 m_J6_bitCount_0f7a4_c265 ?_
  refine z_iand (iI ((mm / 2 &&& 1431655765 : Nat) : Int)) dJ6_bitCount_0f7a4_7 (bi_and (mm / 2) 1431655765) ?_
  refine z_isub dJ6_bitCount_0f7a4_8 ?_
  refine z_topi (iI ((bc1 mm : Nat) : Int)) (by rw [show bc1 mm = mm - (mm / 2 &&& 1431655765) from rfl]; congr 1; omega) ?_
  refine z_istore_n [(0, .int (iI ((bc1 mm : Nat) : Int)))] dJ6_bitCount_0f7a4_9 rfl (by decide) rfl ?_
  refine z_iload_n (j := 0) dJ6_bitCount_0f7a4_10 rfl rfl ?_
  refine z_ldcw dJ6_bitCount_0f7a4_11 m_J6_bitCount_0f7a4_c266 ?_
  refine z_iand (iI ((bc1 mm &&& 858993459 : Nat) : Int)) dJ6_bitCount_0f7a4_14 (bi_and (bc1 mm) 858993459) ?_
  refine z_iload_n (j := 0) dJ6_bitCount_0f7a4_15 rfl rfl ?_
  refine z_iconst dJ6_bitCount_0f7a4_16 ?_
  refine z_iushr (iI ((bc1 mm / 4 : Nat) : Int)) dJ6_bitCount_0f7a4_17 (by
    have h1 : iI 2 = nI 2 := rfl
    rw [h1, ← iI_nI, ← iI_nI]
    exact pk_ushrN (by omega) _ 2 (by decide +kernel)) ?_
  refine z_ldcw dJ6_bitCount_0f7a4_18 m_J6_bitCount_0f7a4_c266 ?_
  refine z_iand (iI ((bc1 mm / 4 &&& 858993459 : Nat) : Int)) dJ6_bitCount_0f7a4_21 (bi_and (bc1 mm / 4) 858993459) ?_
  refine z_iadd dJ6_bitCount_0f7a4_22 ?_
  refine z_topi (iI ((bc2 mm : Nat) : Int)) (by rw [show bc2 mm = (bc1 mm &&& 858993459) + (bc1 mm / 4 &&& 858993459) from rfl]; congr 1) ?_
  refine z_istore_n [(0, .int (iI ((bc2 mm : Nat) : Int)))] dJ6_bitCount_0f7a4_23 rfl (by decide) rfl ?_
  refine z_iload_n (j := 0) dJ6_bitCount_0f7a4_24 rfl rfl ?_
  refine z_iload_n (j := 0) dJ6_bitCount_0f7a4_25 rfl rfl ?_
  refine z_iconst dJ6_bitCount_0f7a4_26 ?_
  refine z_iushr (iI ((bc2 mm / 16 : Nat) : Int)) dJ6_bitCount_0f7a4_27 (by
    have h1 : iI 4 = nI 4 := rfl
    rw [h1, ← iI_nI, ← iI_nI]
    exact pk_ushrN (by omega) _ 4 (by decide +kernel)) ?_
  refine z_iadd dJ6_bitCount_0f7a4_28 ?_
  refine z_topi (iI ((bc2 mm + bc2 mm / 16 : Nat) : Int)) (by congr 1) ?_
  refine z_ldcw dJ6_bitCount_0f7a4_29 m_J6_bitCount_0f7a4_c267 ?_
  refine z_iand (iI ((bc3 mm : Nat) : Int)) dJ6_bitCount_0f7a4_32 (bi_and (bc2 mm + bc2 mm / 16) 252645135) ?_
  refine z_istore_n [(0, .int (iI ((bc3 mm : Nat) : Int)))] dJ6_bitCount_0f7a4_33 rfl (by decide) rfl ?_
  refine z_iload_n (j := 0) dJ6_bitCount_0f7a4_34 rfl rfl ?_
  refine z_iload_n (j := 0) dJ6_bitCount_0f7a4_35 rfl rfl ?_
  refine z_bipush dJ6_bitCount_0f7a4_36 (by decide) ?_
  refine z_iushr (iI ((bc3 mm / 256 : Nat) : Int)) dJ6_bitCount_0f7a4_38 (by
    have h1 : iI 8 = nI 8 := rfl
    rw [h1, ← iI_nI, ← iI_nI]
    exact pk_ushrN (by omega) _ 8 (by decide +kernel)) ?_
  refine z_iadd dJ6_bitCount_0f7a4_39 ?_
  refine z_topi (iI ((bc4 mm : Nat) : Int)) (by rw [show bc4 mm = bc3 mm + bc3 mm / 256 from rfl]; congr 1) ?_
  refine z_istore_n [(0, .int (iI ((bc4 mm : Nat) : Int)))] dJ6_bitCount_0f7a4_40 rfl (by decide) rfl ?_
  refine z_iload_n (j := 0) dJ6_bitCount_0f7a4_41 rfl rfl ?_
  refine z_iload_n (j := 0) dJ6_bitCount_0f7a4_42 rfl rfl ?_
  refine z_bipush dJ6_bitCount_0f7a4_43 (by decide) ?_
  refine z_iushr (iI ((bc4 mm / 65536 : Nat) : Int)) dJ6_bitCount_0f7a4_45 (by
    have h1 : iI 16 = nI 16 := rfl
    rw [h1, ← iI_nI, ← iI_nI]
    exact pk_ushrN (by omega) _ 16 (by decide +kernel)) ?_
  refine z_iadd dJ6_bitCount_0f7a4_46 ?_
  refine z_topi (iI ((bc5 mm : Nat) : Int)) (by rw [show bc5 mm = bc4 mm + bc4 mm / 65536 from rfl]; congr 1) ?_
  refine z_istore_n [(0, .int (iI ((bc5 mm : Nat) : Int)))] dJ6_bitCount_0f7a4_47 rfl (by decide) rfl ?_
  refine z_iload_n (j := 0) dJ6_bitCount_0f7a4_48 rfl rfl ?_
  refine z_bipush dJ6_bitCount_0f7a4_49 (by decide) ?_
  refine z_iand (iI ((bc5 mm &&& 63 : Nat) : Int)) dJ6_bitCount_0f7a4_51 (bi_and (bc5 mm) 63) ?_
  exact z_iret dJ6_bitCount_0f7a4_52 ⟨⟨_, (by rw [bc_pop hm]), rfl⟩, rfl⟩
theorem m_X0_poledCells_f31 : Cond.fieldLink RX0 31 "PoleBehind$Journey" "turns" "I" ∈ wsX0_poledCells := List.mem_of_getElem? (i := 1) rfl
theorem in_X0_poledCells_X0 : ∀ w ∈ wsX00, w ∈ wsX0_poledCells := fun _ h => List.mem_cons_of_mem _ (List.mem_append_right _ h)
theorem cd_J6_bitCount_0f7a4 : yJ6_bitCount_0f7a4.cls ≠ "java/lang/invoke/MethodHandle" ∧ yJ6_bitCount_0f7a4.cls ≠ "java/lang/invoke/VarHandle" ∧ (parseMethodDescriptor yJ6_bitCount_0f7a4.desc).map (fun d => d.parameters.length) = some 1 := ⟨by decide +kernel, by decide +kernel, by decide +kernel⟩
theorem m_X0_poledCells_f9 : Cond.fieldLink RX0 9 "PoleBehind$Journey" "acts" "[I" ∈ wsX0_poledCells := List.mem_of_getElem? (i := 2) rfl
theorem m_X0_poledCells_f15 : Cond.fieldLink RX0 15 "PoleBehind$Journey" "cells" "[I" ∈ wsX0_poledCells := List.mem_of_getElem? (i := 3) rfl
set_option maxHeartbeats 400000 in
set_option maxRecDepth 100000 in
theorem c_X0_poledCells {l : Launch} {D : va_G} {cI cJ cZ cR : ClassId} {q : Nat → Nat} {w d : Nat} {xi : Nat → Int} {xa : Nat → Nat → Int} (hq : qOk 31 q)  (hT : 0 ≤ xi 15 ∧ xi 15 ≤ 18) (hA : ∀ k : Nat, 0 ≤ xa 12 k ∧ xa 12 k ≤ 3) (hCe : ∀ k : Nat, 0 ≤ xa 13 k ∧ xa 13 k ≤ 15) : Cti l D vwCl (tysC cI cJ cZ cR) 31 q yX0_poledCells wsX0_poledCells ({ frames := 1, cells := 0, slots := 0, locals := 20 } : Room) [.ref (q 21)] (cX cI cJ cZ cR q w d xi xa) (fun (r : Int32) (g : Nat → va_E) => (∃ e : Int, (e = ((popN (polM (xa 12) (xa 13) (xi 15).toNat) : Nat) : Int)) ∧ r = iI e) ∧ g = (cX cI cJ cZ cR q w d xi xa)) := by
  refine Cti.of (cc := cX0_poledCells) (nL := 3) (own := RX0) (ret := (some .int)) (by decide) rfl rfl hq (Nat.le_of_ble_eq_true rfl) (fun p e s m args below meth c => ?_)
  refine z_iconst dX0_poledCells_0 ?_
  refine z_istore_n [(1, .int (iI 0)), (0, .ref (q 21))] dX0_poledCells_1 rfl (by decide) rfl ?_
  refine z_iconst dX0_poledCells_2 ?_
  refine z_istore_n [(2, .int (iI 0)), (1, .int (iI 0)), (0, .ref (q 21))] dX0_poledCells_3 rfl (by decide) rfl ?_
  have hl_4 : ∀ (N_4 : Nat) (u : Int) (po : Nat), (20 - u).toNat < N_4 → (0 ≤ u ∧ u ≤ xi 15) → (po = polM (xa 12) (xa 13) u.toNat) → ZMi l D vwCl (tysC cI cJ cZ cR) 31 q ({ frames := 1, cells := 0, slots := 0, locals := 20 } : Room) cX0_poledCells 3 RX0 wsX0_poledCells (some .int) (fun (r : Int32) (g : Nat → va_E) => (∃ e : Int, (e = ((popN (polM (xa 12) (xa 13) (xi 15).toNat) : Nat) : Int)) ∧ r = iI e) ∧ g = (cX cI cJ cZ cR q w d xi xa)) p e s m args below meth c (cX cI cJ cZ cR q w d xi xa) 4 [(2, .int (iI u)), (1, .int (iI ((po : Nat) : Int))), (0, .ref (q 21))] [] := by
    intro N_4
    induction N_4 with
    | zero => intro u po hm; exact absurd hm (Nat.not_lt_zero _)
    | succ N_4 ih_4 =>
      intro u po hm_4 hu hpo
      have hAu := hA u.toNat
      have hCu := hCe u.toNat
      refine z_iload_n (j := 0) dX0_poledCells_4 rfl rfl ?_
      refine z_aload_n (j := 2) dX0_poledCells_5 rfl rfl ?_
      refine z_getf (i := 21) (ci := 0) (k := 2) (v := .int (iI (xi 15))) dX0_poledCells_6 m_X0_poledCells_f31 in_X0_poledCells_X0 rfl (by decide) rfl (by omega) rfl rfl ?_
      refine z_icmp_ge (tgt := 48) dX0_poledCells_9 (by decide) (by omega) (by omega) (fun c_9 => ?_) (fun c_9 => ?_)
      · refine z_iload_n (j := 1) dX0_poledCells_48 rfl rfl ?_
        refine z_callSi (As := [.int (iI ((po : Nat) : Int))]) (rest := []) (c_J6_bitCount_0f7a4  hq (by rw [hpo]; exact polM_lt hCe _)) dX0_poledCells_49 gX0_poledCells_J6_bitCount_0f7a4 rfl cd_J6_bitCount_0f7a4 ⟨Nat.le_of_ble_eq_true rfl, Nat.le_of_ble_eq_true rfl⟩ rfl rfl rfl (Nat.le_of_ble_eq_true rfl) ⟨Nat.zero_le _, Nat.zero_le _⟩ (fun r_49 g_49 hp_49 => ?_)
        obtain ⟨⟨e_49, he_49, rfl⟩, rfl⟩ := hp_49
        exact z_iret dX0_poledCells_52 ⟨⟨_, (by rw [he_49, hpo, show u.toNat = (xi 15).toNat by omega]), rfl⟩, rfl⟩
      · refine z_aload_n (j := 2) dX0_poledCells_12 rfl rfl ?_
        refine z_getf (i := 21) (ci := 0) (k := 0) (v := .ref (q 22)) dX0_poledCells_13 m_X0_poledCells_f9 in_X0_poledCells_X0 rfl (by decide) rfl (by omega) rfl rfl ?_
        refine z_iload_n (j := 0) dX0_poledCells_16 rfl rfl ?_
        refine z_iald (i := 22) (g := xa 12) 0 dX0_poledCells_17 (by omega) rfl rfl (by omega) (by omega) (by omega) ?_
        refine z_if_eq (tgt := 31) dX0_poledCells_18 (by decide) (by omega) (fun c_18 => ?_) (fun c_18 => ?_)
        · refine z_iload_n (j := 1) dX0_poledCells_31 rfl rfl ?_
          refine z_iconst dX0_poledCells_32 ?_
          refine z_aload_n (j := 2) dX0_poledCells_33 rfl rfl ?_
          refine z_getf (i := 21) (ci := 0) (k := 1) (v := .ref (q 23)) dX0_poledCells_34 m_X0_poledCells_f15 in_X0_poledCells_X0 rfl (by decide) rfl (by omega) rfl rfl ?_
          refine z_iload_n (j := 0) dX0_poledCells_37 rfl rfl ?_
          refine z_iald (i := 23) (g := xa 13) 0 dX0_poledCells_38 (by omega) rfl rfl (by omega) (by omega) (by omega) ?_
          refine z_ishl (iI ((2 ^ (xa 13 u.toNat).toNat : Nat) : Int)) dX0_poledCells_39 (bi_shl (by omega)) ?_
          refine z_ior (iI ((po ||| 2 ^ (xa 13 u.toNat).toNat : Nat) : Int)) dX0_poledCells_40 (bi_or _ _) ?_
          refine z_istore_n [(1, .int (iI ((po ||| 2 ^ (xa 13 u.toNat).toNat : Nat) : Int))), (2, .int (iI u)), (0, .ref (q 21))] dX0_poledCells_41 rfl (by decide) rfl ?_
          refine z_iinc (j := 1) [(2, .int (iI (u + 1))), (1, .int (iI ((po ||| 2 ^ (xa 13 u.toNat).toNat : Nat) : Int))), (0, .ref (q 21))] dX0_poledCells_42 rfl (by decide) rfl ?_
          refine z_goto (tgt := 4) dX0_poledCells_45 (by decide) ?_
          exact z_sub [(2, .int (iI (u + 1))), (1, .int (iI ((po ||| 2 ^ (xa 13 u.toNat).toNat : Nat) : Int))), (0, .ref (q 21))] [0, 1, 2] rfl (ih_4 (u + 1) (po ||| 2 ^ (xa 13 u.toNat).toNat) (by omega) (by omega) (by rw [stepN hu.1, polM]; first | rw [if_pos (by omega), hpo] | rw [if_neg (by omega), hpo]))
        · refine z_aload_n (j := 2) dX0_poledCells_21 rfl rfl ?_
          refine z_getf (i := 21) (ci := 0) (k := 0) (v := .ref (q 22)) dX0_poledCells_22 m_X0_poledCells_f9 in_X0_poledCells_X0 rfl (by decide) rfl (by omega) rfl rfl ?_
          refine z_iload_n (j := 0) dX0_poledCells_25 rfl rfl ?_
          refine z_iald (i := 22) (g := xa 12) 0 dX0_poledCells_26 (by omega) rfl rfl (by omega) (by omega) (by omega) ?_
          refine z_iconst dX0_poledCells_27 ?_
          refine z_icmp_ne (tgt := 42) dX0_poledCells_28 (by decide) (by omega) (by decide) (fun c_28 => ?_) (fun c_28 => ?_)
          · refine z_iinc (j := 0) [(2, .int (iI (u + 1))), (1, .int (iI ((po : Nat) : Int))), (0, .ref (q 21))] dX0_poledCells_42 rfl (by decide) rfl ?_
            refine z_goto (tgt := 4) dX0_poledCells_45 (by decide) ?_
            exact z_sub [(2, .int (iI (u + 1))), (1, .int (iI ((po : Nat) : Int))), (0, .ref (q 21))] [0, 1, 2] rfl (ih_4 (u + 1) po (by omega) (by omega) (by rw [stepN hu.1, polM]; first | rw [if_pos (by omega), hpo] | rw [if_neg (by omega), hpo]))
          · refine z_iload_n (j := 1) dX0_poledCells_31 rfl rfl ?_
            refine z_iconst dX0_poledCells_32 ?_
            refine z_aload_n (j := 2) dX0_poledCells_33 rfl rfl ?_
            refine z_getf (i := 21) (ci := 0) (k := 1) (v := .ref (q 23)) dX0_poledCells_34 m_X0_poledCells_f15 in_X0_poledCells_X0 rfl (by decide) rfl (by omega) rfl rfl ?_
            refine z_iload_n (j := 0) dX0_poledCells_37 rfl rfl ?_
            refine z_iald (i := 23) (g := xa 13) 0 dX0_poledCells_38 (by omega) rfl rfl (by omega) (by omega) (by omega) ?_
            refine z_ishl (iI ((2 ^ (xa 13 u.toNat).toNat : Nat) : Int)) dX0_poledCells_39 (bi_shl (by omega)) ?_
            refine z_ior (iI ((po ||| 2 ^ (xa 13 u.toNat).toNat : Nat) : Int)) dX0_poledCells_40 (bi_or _ _) ?_
            refine z_istore_n [(1, .int (iI ((po ||| 2 ^ (xa 13 u.toNat).toNat : Nat) : Int))), (2, .int (iI u)), (0, .ref (q 21))] dX0_poledCells_41 rfl (by decide) rfl ?_
            refine z_iinc (j := 1) [(2, .int (iI (u + 1))), (1, .int (iI ((po ||| 2 ^ (xa 13 u.toNat).toNat : Nat) : Int))), (0, .ref (q 21))] dX0_poledCells_42 rfl (by decide) rfl ?_
            refine z_goto (tgt := 4) dX0_poledCells_45 (by decide) ?_
            exact z_sub [(2, .int (iI (u + 1))), (1, .int (iI ((po ||| 2 ^ (xa 13 u.toNat).toNat : Nat) : Int))), (0, .ref (q 21))] [0, 1, 2] rfl (ih_4 (u + 1) (po ||| 2 ^ (xa 13 u.toNat).toNat) (by omega) (by omega) (by rw [stepN hu.1, polM]; first | rw [if_pos (by omega), hpo] | rw [if_neg (by omega), hpo]))
  exact z_sub [(2, .int (iI 0)), (1, .int (iI 0)), (0, .ref (q 21))] [0, 1, 2] rfl (hl_4 _ 0 0 (Nat.lt_succ_self _) (by omega) (rfl))
