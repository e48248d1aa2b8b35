theorem m_X8_codeAt_f82 : Cond.fieldLink RX8 82 "PoleBehindModel" "readAt" "I" ∈ wsX8_codeAt := List.mem_of_getElem? (i := 1) rfl
theorem in_X8_codeAt_X8 : ∀ w ∈ wsX80, w ∈ wsX8_codeAt := fun _ h => List.mem_cons_of_mem _ (List.mem_append_right _ h)
theorem m_X8_codeAt_f57 : Cond.fieldLink RX8 57 "PoleBehindModel" "sheet" "[I" ∈ wsX8_codeAt := List.mem_of_getElem? (i := 2) rfl
set_option maxHeartbeats 400000 in
set_option maxRecDepth 100000 in
theorem c_X8_codeAt {l : Launch} {D : va_G} {cI cJ cZ cR : ClassId} {q : Nat → Nat} {mi : Nat → Int} {ma : Nat → Nat → Int} (hq : qOk 18 q) {at0 nn : Int} {G : Nat → Int} (hSn : ∀ k : Nat, -2147483648 ≤ ma 16 k ∧ ma 16 k < 2147483648) (hG : ∀ k : Nat, (k : Int) < nn → G k = ma 16 (at0.toNat + k)) (hat : 0 ≤ at0 ∧ 0 ≤ nn ∧ at0 + nn ≤ 240) (h7 : 0 ≤ mi 7 ∧ mi 7 ≤ nn) : Cti l D vwCl (tysC cI cJ cZ cR) 18 q yX8_codeAt wsX8_codeAt ({ frames := 0, cells := 0, slots := 0, locals := 0 } : Room) [.ref (q 0), .int (iI at0), .int (iI nn)] (cM cI cJ cZ q mi ma) (fun (r : Int32) (g : Nat → va_E) => (∃ e : Int, (((mi 7 < nn ∧ e = G (mi 7).toNat) ∨ (nn ≤ mi 7 ∧ e = -9)) ∧ -2147483648 ≤ e ∧ e < 2147483648) ∧ r = iI e) ∧ g = (cM cI cJ cZ q mi ma)) := by
  refine Cti.of (cc := cX8_codeAt) (nL := 3) (own := RX8) (ret := (some .int)) (by decide) rfl rfl hq (Nat.le_of_ble_eq_true rfl) (fun p e s m args below meth c => ?_)
  have hix : (at0 + mi 7).toNat = at0.toNat + (mi 7).toNat := by omega
  have hsx := hSn (at0 + mi 7).toNat
  refine z_aload_n (j := 0) dX8_codeAt_0 rfl rfl ?_
  refine z_getf (i := 0) (ci := 8) (k := 7) (v := .int (iI (mi 7))) dX8_codeAt_1 m_X8_codeAt_f82 in_X8_codeAt_X8 rfl (by decide) rfl (by omega) rfl rfl ?_
  refine z_iload_n (j := 2) dX8_codeAt_4 rfl rfl ?_
  refine z_icmp_ge (tgt := 22) dX8_codeAt_5 (by decide) (by omega) (by omega) (fun c_5 => ?_) (fun c_5 => ?_)
  · refine z_bipush dX8_codeAt_22 (by decide) ?_
    exact z_iret dX8_codeAt_24 ⟨⟨_, (by first | exact ⟨Or.inl ⟨by omega, by rw [hG _ (by omega), ← hix]⟩, hsx⟩ | exact ⟨Or.inr ⟨by omega, rfl⟩, by decide, by decide⟩), rfl⟩, rfl⟩
  · refine z_aload_n (j := 0) dX8_codeAt_8 rfl rfl ?_
    refine z_getf (i := 0) (ci := 8) (k := 27) (v := .ref (q 16)) dX8_codeAt_9 m_X8_codeAt_f57 in_X8_codeAt_X8 rfl (by decide) rfl (by omega) rfl rfl ?_
    refine z_iload_n (j := 1) dX8_codeAt_12 rfl rfl ?_
    refine z_aload_n (j := 0) dX8_codeAt_13 rfl rfl ?_
    refine z_getf (i := 0) (ci := 8) (k := 7) (v := .int (iI (mi 7))) dX8_codeAt_14 m_X8_codeAt_f82 in_X8_codeAt_X8 rfl (by decide) rfl (by omega) rfl rfl ?_
    refine z_iadd dX8_codeAt_17 ?_
    refine z_iald (i := 16) (g := ma 16) 0 dX8_codeAt_18 (by omega) rfl rfl (by omega) (by omega) (by omega) ?_
    refine z_goto (tgt := 24) dX8_codeAt_19 (by decide) ?_
    exact z_iret dX8_codeAt_24 ⟨⟨_, (by first | exact ⟨Or.inl ⟨by omega, by rw [hG _ (by omega), ← hix]⟩, hsx⟩ | exact ⟨Or.inr ⟨by omega, rfl⟩, by decide, by decide⟩), rfl⟩, rfl⟩
theorem cd_X8_codeAt : yX8_codeAt.cls = RX8 ∧ yX8_codeAt.cls ≠ "java/lang/invoke/MethodHandle" ∧ yX8_codeAt.cls ≠ "java/lang/invoke/VarHandle" ∧ (parseMethodDescriptor yX8_codeAt.desc).map (fun d => d.parameters.length) = some 2 := ⟨rfl, by decide +kernel, by decide +kernel, by decide +kernel⟩
theorem m_X8_figure_f82 : Cond.fieldLink RX8 82 "PoleBehindModel" "readAt" "I" ∈ wsX8_figure := List.mem_of_getElem? (i := 1) rfl
theorem in_X8_figure_X8 : ∀ w ∈ wsX80, w ∈ wsX8_figure := fun _ h => List.mem_cons_of_mem _ (List.mem_append_right _ h)
set_option maxHeartbeats 400000 in
set_option maxRecDepth 100000 in
theorem c_X8_figure {l : Launch} {D : va_G} {cI cJ cZ cR : ClassId} {q : Nat → Nat} {mi : Nat → Int} {ma : Nat → Nat → Int} (hq : qOk 18 q) {at0 nn mo : Int} {G : Nat → Int} (hSn : ∀ k : Nat, -2147483648 ≤ ma 16 k ∧ ma 16 k < 2147483648) (hG : ∀ k : Nat, (k : Int) < nn → G k = ma 16 (at0.toNat + k)) (hat : 0 ≤ at0 ∧ 0 ≤ nn ∧ at0 + nn ≤ 240) (h7 : 0 ≤ mi 7 ∧ mi 7 ≤ nn) (hmo : 0 ≤ mo ∧ mo ≤ 9) : Cti l D vwCl (tysC cI cJ cZ cR) 18 q yX8_figure wsX8_figure ({ frames := 1, cells := 0, slots := 0, locals := 25 } : Room) [.ref (q 0), .int (iI at0), .int (iI nn), .int (iI mo)] (cM cI cJ cZ q mi ma) (fun (r : Int32) (g : Nat → va_E) => ∃ (e : Int) (mi' : Nat → Int), ((mi 7 < nn ∧ ((wr (G (mi 7).toNat - 48)) = e ∧ 0 ≤ e ∧ e ≤ mo) ∧ mi' = va_up mi 7 (mi 7 + 1)) ∨ (e = -9 ∧ (mi 7 < nn → ¬ (0 ≤ (wr (G (mi 7).toNat - 48)) ∧ (wr (G (mi 7).toNat - 48)) ≤ mo)) ∧ mi' = mi)) ∧ r = iI e ∧ g = (cM cI cJ cZ q mi' ma)) := by
  refine Cti.of (cc := cX8_figure) (nL := 6) (own := RX8) (ret := (some .int)) (by decide) rfl rfl hq (Nat.le_of_ble_eq_true rfl) (fun p e s m args below meth c => ?_)
  refine z_aload_n (j := 0) dX8_figure_0 rfl rfl ?_
  refine z_iload_n (j := 1) dX8_figure_1 rfl rfl ?_
  refine z_iload_n (j := 2) dX8_figure_2 rfl rfl ?_
  refine z_callVi (i := 0) (ci := 8) (As := [.int (iI at0), .int (iI nn)]) (rest := []) (c_X8_codeAt  hq hSn hG (by omega) (by omega)) dX8_figure_3 gX8_figure_X8_codeAt rfl cd_X8_codeAt ⟨Nat.le_of_ble_eq_true rfl, Nat.le_of_ble_eq_true rfl⟩ rfl rfl (by omega) rfl rfl rfl (Nat.le_of_ble_eq_true rfl) ⟨Nat.zero_le _, Nat.zero_le _⟩ (fun r_3 g_3 hp_3 => ?_)
  obtain ⟨⟨e_3, he_3, rfl⟩, rfl⟩ := hp_3
  have hwr := wr_rng (e_3 - 48)
  refine z_bipush dX8_figure_6 (by decide) ?_
  refine z_isub dX8_figure_8 ?_
  refine z_topi (iI (wr (e_3 - 48))) (iI_wr _) ?_
  refine z_istore [(4, .int (iI (wr (e_3 - 48)))), (0, .ref (q 0)), (1, .int (iI at0)), (2, .int (iI nn)), (3, .int (iI mo))] dX8_figure_9 (by decide) rfl ?_
  refine z_iload (j := 0) dX8_figure_11 rfl ?_
  refine z_i2l dX8_figure_13 (by omega) ?_
  refine z_lconst (z := 0) dX8_figure_14 (by decide) ?_
  refine z_iload_n (j := 4) dX8_figure_15 rfl rfl ?_
  refine z_i2l dX8_figure_16 (by omega) ?_
  refine z_callSi (As := [.long (lI (wr (e_3 - 48))), .long (lI 0), .long (lI mo)]) (rest := []) (c_X8_in  hq (by omega) (by omega) (by omega)) dX8_figure_17 gX8_figure_X8_in rfl cd_X8_in ⟨Nat.le_of_ble_eq_true rfl, Nat.le_of_ble_eq_true rfl⟩ rfl rfl rfl (Nat.le_of_ble_eq_true rfl) ⟨Nat.zero_le _, Nat.zero_le _⟩ (fun r_17 g_17 hp_17 => ?_)
  obtain ⟨⟨h_17, rfl⟩ | ⟨h_17, rfl⟩, rfl⟩ := hp_17
  · refine z_istore [(5, .int (iI 1)), (4, .int (iI (wr (e_3 - 48)))), (0, .ref (q 0)), (1, .int (iI at0)), (2, .int (iI nn)), (3, .int (iI mo))] dX8_figure_20 (by decide) rfl ?_
    refine z_aload_n (j := 2) dX8_figure_22 rfl rfl ?_
    refine z_dup dX8_figure_23 rfl ?_
    refine z_getf (i := 0) (ci := 8) (k := 7) (v := .int (iI (mi 7))) dX8_figure_24 m_X8_figure_f82 in_X8_figure_X8 rfl (by decide) rfl (by omega) rfl rfl ?_
    refine z_iload (j := 0) dX8_figure_27 rfl ?_
    refine z_if_eq (tgt := 36) dX8_figure_29 (by decide) (by decide) (fun h => absurd h (by decide)) (fun _ => ?_)
    refine z_iconst dX8_figure_32 ?_
    refine z_goto (tgt := 37) dX8_figure_33 (by decide) ?_
    refine z_iadd dX8_figure_37 ?_
    refine z_putf (i := 0) (ci := 8) (k := 7) (cM cI cJ cZ q (va_up mi 7 ((mi 7) + 1)) ma) dX8_figure_38 m_X8_figure_f82 in_X8_figure_X8 rfl (by decide) rfl (by omega) rfl tyX8_ok nmX8 rfl rfl rfl (Nat.le_of_ble_eq_true rfl) lm_7 ?_
    refine z_iload (j := 0) dX8_figure_41 rfl ?_
    refine z_if_eq (tgt := 51) dX8_figure_43 (by decide) (by decide) (fun h => absurd h (by decide)) (fun _ => ?_)
    refine z_iload (j := 1) dX8_figure_46 rfl ?_
    refine z_goto (tgt := 53) dX8_figure_48 (by decide) ?_
    exact z_iret dX8_figure_53 ⟨_, _, (by
      rcases he_3.1 with ⟨q1, q2⟩ | ⟨q1, q2⟩
      · exact Or.inl ⟨q1, ⟨by rw [q2], h_17.1, h_17.2⟩, rfl⟩
      · rw [q2, show wr (-9 - 48) = -57 from wr_in (by omega)] at h_17
        exact absurd h_17.1 (by decide)), rfl, rfl⟩
  · refine z_istore [(5, .int (iI 0)), (4, .int (iI (wr (e_3 - 48)))), (0, .ref (q 0)), (1, .int (iI at0)), (2, .int (iI nn)), (3, .int (iI mo))] dX8_figure_20 (by decide) rfl ?_
    refine z_aload_n (j := 2) dX8_figure_22 rfl rfl ?_
    refine z_dup dX8_figure_23 rfl ?_
    refine z_getf (i := 0) (ci := 8) (k := 7) (v := .int (iI (mi 7))) dX8_figure_24 m_X8_figure_f82 in_X8_figure_X8 rfl (by decide) rfl (by omega) rfl rfl ?_
    refine z_iload (j := 0) dX8_figure_27 rfl ?_
    refine z_if_eq (tgt := 36) dX8_figure_29 (by decide) (by decide) (fun _ => ?_) (fun h => absurd h (by decide))
    refine z_iconst dX8_figure_36 ?_
    refine z_iadd dX8_figure_37 ?_
    refine z_putf (i := 0) (ci := 8) (k := 7) (cM cI cJ cZ q (va_up mi 7 ((mi 7) + 0)) ma) dX8_figure_38 m_X8_figure_f82 in_X8_figure_X8 rfl (by decide) rfl (by omega) rfl tyX8_ok nmX8 rfl rfl rfl (Nat.le_of_ble_eq_true rfl) lm_7 ?_
    refine z_iload (j := 0) dX8_figure_41 rfl ?_
    refine z_if_eq (tgt := 51) dX8_figure_43 (by decide) (by decide) (fun _ => ?_) (fun h => absurd h (by decide))
    refine z_bipush dX8_figure_51 (by decide) ?_
    exact z_iret dX8_figure_53 ⟨_, _, (by
      refine Or.inr ⟨rfl, fun q hw => h_17 ?_, by rw [Int.add_zero, up_id]⟩
      rcases he_3.1 with ⟨q1, q2⟩ | ⟨q1, q2⟩
      · rw [q2]; exact hw
      · exact absurd q (by omega)), rfl, rfl⟩
theorem m_X8_readsCell_f89 : Cond.fieldLink RX8 89 "PoleBehindModel" "readCells" "I" ∈ wsX8_readsCell := List.mem_of_getElem? (i := 1) rfl
theorem in_X8_readsCell_X8 : ∀ w ∈ wsX80, w ∈ wsX8_readsCell := fun _ h => List.mem_cons_of_mem _ (List.mem_append_right _ h)
theorem m_X8_readsCell_f82 : Cond.fieldLink RX8 82 "PoleBehindModel" "readAt" "I" ∈ wsX8_readsCell := List.mem_of_getElem? (i := 2) rfl
theorem m_X8_readsCell_f22 : Cond.fieldLink RX8 22 "PoleBehindModel" "readKind" "[I" ∈ wsX8_readsCell := List.mem_of_getElem? (i := 3) rfl
theorem m_X8_readsCell_f25 : Cond.fieldLink RX8 25 "PoleBehindModel" "readMud" "[I" ∈ wsX8_readsCell := List.mem_of_getElem? (i := 4) rfl
theorem m_X8_readsCell_f28 : Cond.fieldLink RX8 28 "PoleBehindModel" "readDeep" "[I" ∈ wsX8_readsCell := List.mem_of_getElem? (i := 5) rfl
theorem m_X8_readsCell_f31 : Cond.fieldLink RX8 31 "PoleBehindModel" "readBridge" "[I" ∈ wsX8_readsCell := List.mem_of_getElem? (i := 6) rfl
theorem cd_X8_figure : yX8_figure.cls = RX8 ∧ yX8_figure.cls ≠ "java/lang/invoke/MethodHandle" ∧ yX8_figure.cls ≠ "java/lang/invoke/VarHandle" ∧ (parseMethodDescriptor yX8_figure.desc).map (fun d => d.parameters.length) = some 3 := ⟨rfl, by decide +kernel, by decide +kernel, by decide +kernel⟩
set_option maxHeartbeats 400000 in
set_option maxRecDepth 100000 in
theorem c_X8_readsCell {l : Launch} {D : va_G} {cI cJ cZ cR : ClassId} {q : Nat → Nat} {mi : Nat → Int} {ma : Nat → Nat → Int} (hq : qOk 18 q) {σ0 : MS} {at0 nn : Int} {G : Nat → Int} (hSn : ∀ k : Nat, -2147483648 ≤ ma 16 k ∧ ma 16 k < 2147483648) (hG : ∀ k : Nat, (k : Int) < nn → G k = ma 16 (at0.toNat + k)) (hat : 0 ≤ at0 ∧ 0 ≤ nn ∧ at0 + nn ≤ 240) (hM : RdM σ0 G nn mi ma) (hl : mi 9 < 2 ∨ mi 7 < nn) (hq8 : MQ8 ma) : Cti l D vwCl (tysC cI cJ cZ cR) 18 q yX8_readsCell wsX8_readsCell ({ frames := 2, cells := 0, slots := 0, locals := 50 } : Room) [.ref (q 0), .int (iI at0), .int (iI nn)] (cM cI cJ cZ q mi ma) (fun (r : Int32) (g : Nat → va_E) => ∃ (mi' : Nat → Int) (ma' : Nat → Nat → Int), (((RdM σ0 G nn mi' ma' ∧ mi 7 < mi' 7 ∧ (∀ k, k ≠ 7 → k ≠ 8 → k ≠ 9 → mi' k = mi k) ∧ (∀ k, k ≠ 5 → k ≠ 6 → k ≠ 7 → k ≠ 8 → ma' k = ma k) ∧ MQ8 ma') ∧ r = iI 1) ∨ ((RdF σ0 G nn mi' ∧ mi 7 ≤ mi' 7 ∧ (∀ k, k ≠ 7 → k ≠ 8 → k ≠ 9 → mi' k = mi k) ∧ (∀ k, k ≠ 5 → k ≠ 6 → k ≠ 7 → k ≠ 8 → ma' k = ma k) ∧ MQ8 ma') ∧ r = iI 0)) ∧ g = (cM cI cJ cZ q mi' ma')) := by
  refine Cti.of (cc := cX8_readsCell) (nL := 6) (own := RX8) (ret := (some .boolean)) (by decide) rfl rfl hq (Nat.le_of_ble_eq_true rfl) (fun p e s m args below meth c => ?_)
  obtain ⟨h7, h9, h8, st0, hm0, hst0⟩ := id hM
  refine z_aload_n (j := 0) dX8_readsCell_0 rfl rfl ?_
  refine z_iload_n (j := 1) dX8_readsCell_1 rfl rfl ?_
  refine z_iload_n (j := 2) dX8_readsCell_2 rfl rfl ?_
  refine z_callVi (i := 0) (ci := 8) (As := [.int (iI at0), .int (iI nn)]) (rest := []) (c_X8_codeAt  hq hSn hG (by omega) (by omega)) dX8_readsCell_3 gX8_readsCell_X8_codeAt rfl cd_X8_codeAt ⟨Nat.le_of_ble_eq_true rfl, Nat.le_of_ble_eq_true rfl⟩ rfl rfl (by omega) rfl rfl rfl (Nat.le_of_ble_eq_true rfl) ⟨Nat.zero_le _, Nat.zero_le _⟩ (fun r_3 g_3 hp_3 => ?_)
  obtain ⟨⟨e_3, he_3, rfl⟩, rfl⟩ := hp_3
  have hr3 := he_3.2
  refine z_istore_n [(3, .int (iI e_3)), (0, .ref (q 0)), (1, .int (iI at0)), (2, .int (iI nn))] dX8_readsCell_6 rfl (by decide) rfl ?_
  refine z_aload_n (j := 1) dX8_readsCell_7 rfl rfl ?_
  refine z_getf (i := 0) (ci := 8) (k := 9) (v := .int (iI (mi 9))) dX8_readsCell_8 m_X8_readsCell_f89 in_X8_readsCell_X8 rfl (by decide) rfl (by omega) rfl rfl ?_
  refine z_bipush dX8_readsCell_11 (by decide) ?_
  refine z_icmp_eq (tgt := 40) dX8_readsCell_13 (by decide) (by omega) (by decide) (fun c_13 => ?_) (fun c_13 => ?_)
  · refine z_iconst dX8_readsCell_40 ?_
    exact z_zret dX8_readsCell_41 (Or.inl rfl) ⟨_, _, Or.inr ⟨(by
      refine ⟨rd_bad hM hl ?_, Int.le_refl _, fun _ _ _ _ => rfl, fun _ _ _ _ _ => rfl, hq8⟩
      first
        | exact Or.inl c_13
        | exact Or.inr (fun q => by rcases he_3.1 with g | g <;> omega)), rfl⟩, rfl⟩
  · refine z_iload_n (j := 0) dX8_readsCell_16 rfl rfl ?_
    refine z_bipush dX8_readsCell_17 (by decide) ?_
    refine z_icmp_eq (tgt := 42) dX8_readsCell_19 (by decide) (by omega) (by decide) (fun c_19 => ?_) (fun c_19 => ?_)
    · have hq7 : mi 7 < nn ∧ G (mi 7).toNat = 100 := by
        rcases he_3.1 with q | q
        · exact ⟨q.1, q.2.symm.trans c_19⟩
        · exact absurd (q.2.symm.trans c_19) (by decide)
      have hL := rd_let (kind := 0) (deep := 1) hM hq7.1 c_13 (by omega)
      rw [if_neg (by decide)] at hL
      rw [c_19]
      refine z_aload_n (j := 1) dX8_readsCell_42 rfl rfl ?_
      refine z_dup dX8_readsCell_43 rfl ?_
      refine z_getf (i := 0) (ci := 8) (k := 7) (v := .int (iI (mi 7))) dX8_readsCell_44 m_X8_readsCell_f82 in_X8_readsCell_X8 rfl (by decide) rfl (by omega) rfl rfl ?_
      refine z_iconst dX8_readsCell_47 ?_
      refine z_iadd dX8_readsCell_48 ?_
      refine z_putf (i := 0) (ci := 8) (k := 7) (cM cI cJ cZ q (va_up mi 7 ((mi 7) + 1)) ma) dX8_readsCell_49 m_X8_readsCell_f82 in_X8_readsCell_X8 rfl (by decide) rfl (by omega) rfl tyX8_ok nmX8 rfl rfl rfl (Nat.le_of_ble_eq_true rfl) lm_7 ?_
      refine z_iload_n (j := 0) dX8_readsCell_52 rfl rfl ?_
      refine z_bipush dX8_readsCell_53 (by decide) ?_
      refine z_icmp_ne (tgt := 62) dX8_readsCell_55 (by decide) (by decide) (by decide) (fun h => absurd h (by decide)) (fun _ => ?_)
      refine z_iconst dX8_readsCell_58 ?_
      refine z_goto (tgt := 70) dX8_readsCell_59 (by decide) ?_
      refine z_istore [(4, .int (iI 0)), (3, .int (iI 100)), (0, .ref (q 0)), (1, .int (iI at0)), (2, .int (iI nn))] dX8_readsCell_70 (by decide) rfl ?_
      refine z_iload (j := 0) dX8_readsCell_72 rfl ?_
      refine z_if_ge (tgt := 79) dX8_readsCell_74 (by decide) (by decide) (fun _ => ?_) (fun h => absurd h (by decide))
      have hT := hL
      refine z_aload_n (j := 2) dX8_readsCell_79 rfl rfl ?_
      refine z_getf (i := 0) (ci := 8) (k := 10) (v := .ref (q 5)) dX8_readsCell_80 m_X8_readsCell_f22 in_X8_readsCell_X8 rfl (by decide) rfl (by omega) rfl rfl ?_
      refine z_aload_n (j := 2) dX8_readsCell_83 rfl rfl ?_
      refine z_getf (i := 0) (ci := 8) (k := 9) (v := .int (iI (mi 9))) dX8_readsCell_84 m_X8_readsCell_f89 in_X8_readsCell_X8 rfl (by decide) rfl (by omega) rfl rfl ?_
      refine z_iload_n (j := 1) dX8_readsCell_87 rfl rfl ?_
      refine z_bipush dX8_readsCell_88 (by decide) ?_
      refine z_icmp_ne (tgt := 97) dX8_readsCell_90 (by decide) (by decide) (by decide) (fun _ => ?_) (fun h => absurd h (by decide))
      refine z_iload_n (j := 1) dX8_readsCell_97 rfl rfl ?_
      refine z_bipush dX8_readsCell_98 (by decide) ?_
      refine z_icmp_ne (tgt := 107) dX8_readsCell_100 (by decide) (by decide) (by decide) (fun _ => ?_) (fun h => absurd h (by decide))
      refine z_iconst dX8_readsCell_107 ?_
      refine z_iast (i := 5) (g := ma 5) 0 (cM cI cJ cZ q (va_up mi 7 ((mi 7) + 1)) (va_up ma 5 (va_up (ma 5) (mi 9).toNat 0))) dX8_readsCell_108 (by omega) rfl rfl (by omega) (by omega) (by omega) la_5 ?_
      refine z_aload_n (j := 2) dX8_readsCell_109 rfl rfl ?_
      refine z_getf (i := 0) (ci := 8) (k := 11) (v := .ref (q 6)) dX8_readsCell_110 m_X8_readsCell_f25 in_X8_readsCell_X8 rfl (by decide) rfl (by omega) rfl rfl ?_
      refine z_aload_n (j := 2) dX8_readsCell_113 rfl rfl ?_
      refine z_getf (i := 0) (ci := 8) (k := 9) (v := .int (iI (mi 9))) dX8_readsCell_114 m_X8_readsCell_f89 in_X8_readsCell_X8 rfl (by decide) rfl (by omega) rfl rfl ?_
      refine z_iload (j := 0) dX8_readsCell_117 rfl ?_
      refine z_iast (i := 6) (g := ma 6) 0 (cM cI cJ cZ q (va_up mi 7 ((mi 7) + 1)) (va_up (va_up ma 5 (va_up (ma 5) (mi 9).toNat 0)) 6 (va_up ((va_up ma 5 (va_up (ma 5) (mi 9).toNat 0)) 6) (mi 9).toNat 0))) dX8_readsCell_119 (by omega) rfl rfl (by omega) (by omega) (by omega) la_6 ?_
      refine z_aload_n (j := 2) dX8_readsCell_120 rfl rfl ?_
      refine z_getf (i := 0) (ci := 8) (k := 12) (v := .ref (q 7)) dX8_readsCell_121 m_X8_readsCell_f28 in_X8_readsCell_X8 rfl (by decide) rfl (by omega) rfl rfl ?_
      refine z_aload_n (j := 2) dX8_readsCell_124 rfl rfl ?_
      refine z_getf (i := 0) (ci := 8) (k := 9) (v := .int (iI (mi 9))) dX8_readsCell_125 m_X8_readsCell_f89 in_X8_readsCell_X8 rfl (by decide) rfl (by omega) rfl rfl ?_
      refine z_iload_n (j := 1) dX8_readsCell_128 rfl rfl ?_
      refine z_bipush dX8_readsCell_129 (by decide) ?_
      refine z_icmp_ne (tgt := 138) dX8_readsCell_131 (by decide) (by decide) (by decide) (fun h => absurd h (by decide)) (fun _ => ?_)
      refine z_iconst dX8_readsCell_134 ?_
      refine z_goto (tgt := 139) dX8_readsCell_135 (by decide) ?_
      refine z_iast (i := 7) (g := ma 7) 0 (cM cI cJ cZ q (va_up mi 7 ((mi 7) + 1)) (va_up (va_up (va_up ma 5 (va_up (ma 5) (mi 9).toNat 0)) 6 (va_up ((va_up ma 5 (va_up (ma 5) (mi 9).toNat 0)) 6) (mi 9).toNat 0)) 7 (va_up ((va_up (va_up ma 5 (va_up (ma 5) (mi 9).toNat 0)) 6 (va_up ((va_up ma 5 (va_up (ma 5) (mi 9).toNat 0)) 6) (mi 9).toNat 0)) 7) (mi 9).toNat 1))) dX8_readsCell_139 (by omega) rfl rfl (by omega) (by omega) (by omega) la_7 ?_
      refine z_aload_n (j := 2) dX8_readsCell_140 rfl rfl ?_
      refine z_iload_n (j := 3) dX8_readsCell_141 rfl rfl ?_
      refine z_iload_n (j := 4) dX8_readsCell_142 rfl rfl ?_
      refine z_callVi (i := 0) (ci := 8) (As := [.int (iI at0), .int (iI nn)]) (rest := []) (c_X8_codeAt  hq hSn hG (by omega) (by rw [up_s]; omega)) dX8_readsCell_143 gX8_readsCell_X8_codeAt rfl cd_X8_codeAt ⟨Nat.le_of_ble_eq_true rfl, Nat.le_of_ble_eq_true rfl⟩ rfl rfl (by omega) rfl rfl rfl (Nat.le_of_ble_eq_true rfl) ⟨Nat.zero_le _, Nat.zero_le _⟩ (fun r_143 g_143 hp_143 => ?_)
      obtain ⟨⟨e_143, he_143, rfl⟩, rfl⟩ := hp_143
      have h94 : ((mi 7) + 1 < nn ∧ e_143 = G ((mi 7) + 1).toNat) ∨ (nn ≤ (mi 7) + 1 ∧ e_143 = -9) := he_143.1
      have hr143 := he_143.2
      refine z_bipush dX8_readsCell_146 (by decide) ?_
      refine z_icmp_ne (tgt := 155) dX8_readsCell_148 (by decide) (by omega) (by decide) (fun c_148 => ?_) (fun c_148 => ?_)
      · refine z_iconst dX8_readsCell_155 ?_
        refine z_istore [(5, .int (iI 0)), (4, .int (iI 0)), (3, .int (iI 100)), (0, .ref (q 0)), (1, .int (iI at0)), (2, .int (iI nn))] dX8_readsCell_156 (by decide) rfl ?_
        refine z_aload_n (j := 3) dX8_readsCell_158 rfl rfl ?_
        refine z_getf (i := 0) (ci := 8) (k := 13) (v := .ref (q 8)) dX8_readsCell_159 m_X8_readsCell_f31 in_X8_readsCell_X8 rfl (by decide) rfl (by omega) rfl rfl ?_
        refine z_aload_n (j := 3) dX8_readsCell_162 rfl rfl ?_
        refine z_getf (i := 0) (ci := 8) (k := 9) (v := .int (iI (mi 9))) dX8_readsCell_163 m_X8_readsCell_f89 in_X8_readsCell_X8 rfl (by decide) rfl (by omega) rfl rfl ?_
        refine z_iload (j := 0) dX8_readsCell_166 rfl ?_
        refine z_if_eq (tgt := 175) dX8_readsCell_168 (by decide) (by decide) (fun _ => ?_) (fun h => absurd h (by decide))
        refine z_iconst dX8_readsCell_175 ?_
        refine z_iast (i := 8) (g := ma 8) 0 (cM cI cJ cZ q (va_up mi 7 ((mi 7) + 1)) (va_up (va_up (va_up (va_up ma 5 (va_up (ma 5) (mi 9).toNat 0)) 6 (va_up ((va_up ma 5 (va_up (ma 5) (mi 9).toNat 0)) 6) (mi 9).toNat 0)) 7 (va_up ((va_up (va_up ma 5 (va_up (ma 5) (mi 9).toNat 0)) 6 (va_up ((va_up ma 5 (va_up (ma 5) (mi 9).toNat 0)) 6) (mi 9).toNat 0)) 7) (mi 9).toNat 1)) 8 (va_up ((va_up (va_up (va_up ma 5 (va_up (ma 5) (mi 9).toNat 0)) 6 (va_up ((va_up ma 5 (va_up (ma 5) (mi 9).toNat 0)) 6) (mi 9).toNat 0)) 7 (va_up ((va_up (va_up ma 5 (va_up (ma 5) (mi 9).toNat 0)) 6 (va_up ((va_up ma 5 (va_up (ma 5) (mi 9).toNat 0)) 6) (mi 9).toNat 0)) 7) (mi 9).toNat 1)) 8) (mi 9).toNat 0))) dX8_readsCell_176 (by omega) rfl rfl (by omega) (by omega) (by omega) la_8 ?_
        refine z_aload_n (j := 3) dX8_readsCell_177 rfl rfl ?_
        refine z_dup dX8_readsCell_178 rfl ?_
        refine z_getf (i := 0) (ci := 8) (k := 7) (v := .int (iI ((mi 7) + 1))) dX8_readsCell_179 m_X8_readsCell_f82 in_X8_readsCell_X8 rfl (by decide) rfl (by omega) rfl rfl ?_
        refine z_iload (j := 0) dX8_readsCell_182 rfl ?_
        refine z_if_eq (tgt := 191) dX8_readsCell_184 (by decide) (by decide) (fun _ => ?_) (fun h => absurd h (by decide))
        refine z_iconst dX8_readsCell_191 ?_
        refine z_iadd dX8_readsCell_192 ?_
        refine z_putf (i := 0) (ci := 8) (k := 7) (cM cI cJ cZ q (va_up (va_up mi 7 ((mi 7) + 1)) 7 (((mi 7) + 1) + 0)) (va_up (va_up (va_up (va_up ma 5 (va_up (ma 5) (mi 9).toNat 0)) 6 (va_up ((va_up ma 5 (va_up (ma 5) (mi 9).toNat 0)) 6) (mi 9).toNat 0)) 7 (va_up ((va_up (va_up ma 5 (va_up (ma 5) (mi 9).toNat 0)) 6 (va_up ((va_up ma 5 (va_up (ma 5) (mi 9).toNat 0)) 6) (mi 9).toNat 0)) 7) (mi 9).toNat 1)) 8 (va_up ((va_up (va_up (va_up ma 5 (va_up (ma 5) (mi 9).toNat 0)) 6 (va_up ((va_up ma 5 (va_up (ma 5) (mi 9).toNat 0)) 6) (mi 9).toNat 0)) 7 (va_up ((va_up (va_up ma 5 (va_up (ma 5) (mi 9).toNat 0)) 6 (va_up ((va_up ma 5 (va_up (ma 5) (mi 9).toNat 0)) 6) (mi 9).toNat 0)) 7) (mi 9).toNat 1)) 8) (mi 9).toNat 0))) dX8_readsCell_193 m_X8_readsCell_f82 in_X8_readsCell_X8 rfl (by decide) rfl (by omega) rfl tyX8_ok nmX8 rfl rfl rfl (Nat.le_of_ble_eq_true rfl) lm_7 ?_
        refine z_aload_n (j := 3) dX8_readsCell_196 rfl rfl ?_
        refine z_dup dX8_readsCell_197 rfl ?_
        refine z_getf (i := 0) (ci := 8) (k := 9) (v := .int (iI (mi 9))) dX8_readsCell_198 m_X8_readsCell_f89 in_X8_readsCell_X8 rfl (by decide) rfl (by omega) rfl rfl ?_
        refine z_iconst dX8_readsCell_201 ?_
        refine z_iadd dX8_readsCell_202 ?_
        refine z_putf (i := 0) (ci := 8) (k := 9) (cM cI cJ cZ q (va_up (va_up (va_up mi 7 ((mi 7) + 1)) 7 (((mi 7) + 1) + 0)) 9 ((mi 9) + 1)) (va_up (va_up (va_up (va_up ma 5 (va_up (ma 5) (mi 9).toNat 0)) 6 (va_up ((va_up ma 5 (va_up (ma 5) (mi 9).toNat 0)) 6) (mi 9).toNat 0)) 7 (va_up ((va_up (va_up ma 5 (va_up (ma 5) (mi 9).toNat 0)) 6 (va_up ((va_up ma 5 (va_up (ma 5) (mi 9).toNat 0)) 6) (mi 9).toNat 0)) 7) (mi 9).toNat 1)) 8 (va_up ((va_up (va_up (va_up ma 5 (va_up (ma 5) (mi 9).toNat 0)) 6 (va_up ((va_up ma 5 (va_up (ma 5) (mi 9).toNat 0)) 6) (mi 9).toNat 0)) 7 (va_up ((va_up (va_up ma 5 (va_up (ma 5) (mi 9).toNat 0)) 6 (va_up ((va_up ma 5 (va_up (ma 5) (mi 9).toNat 0)) 6) (mi 9).toNat 0)) 7) (mi 9).toNat 1)) 8) (mi 9).toNat 0))) dX8_readsCell_203 m_X8_readsCell_f89 in_X8_readsCell_X8 rfl (by decide) rfl (by omega) rfl tyX8_ok nmX8 rfl rfl rfl (Nat.le_of_ble_eq_true rfl) lm_9 ?_
        refine z_iconst dX8_readsCell_206 ?_
        exact z_zret dX8_readsCell_207 (Or.inr rfl) ⟨_, _, Or.inl ⟨(by
      have hS : mrun σ0 G (((mi 7) + 1) + 0).toNat = .inl (4, mi 8, mi 9 + 1, va_up (ma 5) (mi 9).toNat 0, va_up (ma 6) (mi 9).toNat 0, va_up (ma 7) (mi 9).toNat 1, va_up (ma 8) (mi 9).toNat 0) := by rw [Int.add_zero]; exact hT
      refine ⟨⟨⟨show 0 ≤ ((mi 7) + 1) + 0 by omega, show ((mi 7) + 1) + 0 ≤ nn by omega⟩, ⟨show 0 ≤ mi 9 + 1 by omega, show mi 9 + 1 ≤ 16 by omega⟩, h8, 4, hS, ?_⟩, show mi 7 < ((mi 7) + 1) + 0 by omega, fun k a1 a2 a3 => by rw [up_n a3, up_n a1, up_n a1], fun k a1 a2 a3 a4 => by rw [up_n a4, up_n a3, up_n a2, up_n a1], MQ8_up (ma := ma) (j := (mi 9).toNat) (a := 0) (b := 0) (c := 1) (d := 0) hq8 (by omega) (by omega) (by omega) (by omega) rfl rfl rfl rfl⟩
      refine Or.inr (Or.inl ⟨rfl, fun q => ?_⟩)
      have q2 : ((mi 7) + 1) + 0 < nn := q
      show ¬ G (((mi 7) + 1) + 0).toNat = 94
      rw [Int.add_zero]
      rcases h94 with g | g
      · exact fun w => c_148 (g.2.trans w)
      · exact absurd q2 (by omega)), rfl⟩, rfl⟩
      · refine z_iconst dX8_readsCell_151 ?_
        refine z_goto (tgt := 156) dX8_readsCell_152 (by decide) ?_
        refine z_istore [(5, .int (iI 1)), (4, .int (iI 0)), (3, .int (iI 100)), (0, .ref (q 0)), (1, .int (iI at0)), (2, .int (iI nn))] dX8_readsCell_156 (by decide) rfl ?_
        refine z_aload_n (j := 3) dX8_readsCell_158 rfl rfl ?_
        refine z_getf (i := 0) (ci := 8) (k := 13) (v := .ref (q 8)) dX8_readsCell_159 m_X8_readsCell_f31 in_X8_readsCell_X8 rfl (by decide) rfl (by omega) rfl rfl ?_
        refine z_aload_n (j := 3) dX8_readsCell_162 rfl rfl ?_
        refine z_getf (i := 0) (ci := 8) (k := 9) (v := .int (iI (mi 9))) dX8_readsCell_163 m_X8_readsCell_f89 in_X8_readsCell_X8 rfl (by decide) rfl (by omega) rfl rfl ?_
        refine z_iload (j := 0) dX8_readsCell_166 rfl ?_
        refine z_if_eq (tgt := 175) dX8_readsCell_168 (by decide) (by decide) (fun h => absurd h (by decide)) (fun _ => ?_)
        refine z_iconst dX8_readsCell_171 ?_
        refine z_goto (tgt := 176) dX8_readsCell_172 (by decide) ?_
        refine z_iast (i := 8) (g := ma 8) 0 (cM cI cJ cZ q (va_up mi 7 ((mi 7) + 1)) (va_up (va_up (va_up (va_up ma 5 (va_up (ma 5) (mi 9).toNat 0)) 6 (va_up ((va_up ma 5 (va_up (ma 5) (mi 9).toNat 0)) 6) (mi 9).toNat 0)) 7 (va_up ((va_up (va_up ma 5 (va_up (ma 5) (mi 9).toNat 0)) 6 (va_up ((va_up ma 5 (va_up (ma 5) (mi 9).toNat 0)) 6) (mi 9).toNat 0)) 7) (mi 9).toNat 1)) 8 (va_up ((va_up (va_up (va_up ma 5 (va_up (ma 5) (mi 9).toNat 0)) 6 (va_up ((va_up ma 5 (va_up (ma 5) (mi 9).toNat 0)) 6) (mi 9).toNat 0)) 7 (va_up ((va_up (va_up ma 5 (va_up (ma 5) (mi 9).toNat 0)) 6 (va_up ((va_up ma 5 (va_up (ma 5) (mi 9).toNat 0)) 6) (mi 9).toNat 0)) 7) (mi 9).toNat 1)) 8) (mi 9).toNat 1))) dX8_readsCell_176 (by omega) rfl rfl (by omega) (by omega) (by omega) la_8 ?_
        refine z_aload_n (j := 3) dX8_readsCell_177 rfl rfl ?_
        refine z_dup dX8_readsCell_178 rfl ?_
        refine z_getf (i := 0) (ci := 8) (k := 7) (v := .int (iI ((mi 7) + 1))) dX8_readsCell_179 m_X8_readsCell_f82 in_X8_readsCell_X8 rfl (by decide) rfl (by omega) rfl rfl ?_
        refine z_iload (j := 0) dX8_readsCell_182 rfl ?_
        refine z_if_eq (tgt := 191) dX8_readsCell_184 (by decide) (by decide) (fun h => absurd h (by decide)) (fun _ => ?_)
        refine z_iconst dX8_readsCell_187 ?_
        refine z_goto (tgt := 192) dX8_readsCell_188 (by decide) ?_
        refine z_iadd dX8_readsCell_192 ?_
        refine z_putf (i := 0) (ci := 8) (k := 7) (cM cI cJ cZ q (va_up (va_up mi 7 ((mi 7) + 1)) 7 (((mi 7) + 1) + 1)) (va_up (va_up (va_up (va_up ma 5 (va_up (ma 5) (mi 9).toNat 0)) 6 (va_up ((va_up ma 5 (va_up (ma 5) (mi 9).toNat 0)) 6) (mi 9).toNat 0)) 7 (va_up ((va_up (va_up ma 5 (va_up (ma 5) (mi 9).toNat 0)) 6 (va_up ((va_up ma 5 (va_up (ma 5) (mi 9).toNat 0)) 6) (mi 9).toNat 0)) 7) (mi 9).toNat 1)) 8 (va_up ((va_up (va_up (va_up ma 5 (va_up (ma 5) (mi 9).toNat 0)) 6 (va_up ((va_up ma 5 (va_up (ma 5) (mi 9).toNat 0)) 6) (mi 9).toNat 0)) 7 (va_up ((va_up (va_up ma 5 (va_up (ma 5) (mi 9).toNat 0)) 6 (va_up ((va_up ma 5 (va_up (ma 5) (mi 9).toNat 0)) 6) (mi 9).toNat 0)) 7) (mi 9).toNat 1)) 8) (mi 9).toNat 1))) dX8_readsCell_193 m_X8_readsCell_f82 in_X8_readsCell_X8 rfl (by decide) rfl (by omega) rfl tyX8_ok nmX8 rfl rfl rfl (Nat.le_of_ble_eq_true rfl) lm_7 ?_
        refine z_aload_n (j := 3) dX8_readsCell_196 rfl rfl ?_
        refine z_dup dX8_readsCell_197 rfl ?_
        refine z_getf (i := 0) (ci := 8) (k := 9) (v := .int (iI (mi 9))) dX8_readsCell_198 m_X8_readsCell_f89 in_X8_readsCell_X8 rfl (by decide) rfl (by omega) rfl rfl ?_
        refine z_iconst dX8_readsCell_201 ?_
        refine z_iadd dX8_readsCell_202 ?_
        refine z_putf (i := 0) (ci := 8) (k := 9) (cM cI cJ cZ q (va_up (va_up (va_up mi 7 ((mi 7) + 1)) 7 (((mi 7) + 1) + 1)) 9 ((mi 9) + 1)) (va_up (va_up (va_up (va_up ma 5 (va_up (ma 5) (mi 9).toNat 0)) 6 (va_up ((va_up ma 5 (va_up (ma 5) (mi 9).toNat 0)) 6) (mi 9).toNat 0)) 7 (va_up ((va_up (va_up ma 5 (va_up (ma 5) (mi 9).toNat 0)) 6 (va_up ((va_up ma 5 (va_up (ma 5) (mi 9).toNat 0)) 6) (mi 9).toNat 0)) 7) (mi 9).toNat 1)) 8 (va_up ((va_up (va_up (va_up ma 5 (va_up (ma 5) (mi 9).toNat 0)) 6 (va_up ((va_up ma 5 (va_up (ma 5) (mi 9).toNat 0)) 6) (mi 9).toNat 0)) 7 (va_up ((va_up (va_up ma 5 (va_up (ma 5) (mi 9).toNat 0)) 6 (va_up ((va_up ma 5 (va_up (ma 5) (mi 9).toNat 0)) 6) (mi 9).toNat 0)) 7) (mi 9).toNat 1)) 8) (mi 9).toNat 1))) dX8_readsCell_203 m_X8_readsCell_f89 in_X8_readsCell_X8 rfl (by decide) rfl (by omega) rfl tyX8_ok nmX8 rfl rfl rfl (Nat.le_of_ble_eq_true rfl) lm_9 ?_
        refine z_iconst dX8_readsCell_206 ?_
        exact z_zret dX8_readsCell_207 (Or.inr rfl) ⟨_, _, Or.inl ⟨(by
      have hx94 : (mi 7) + 1 < nn ∧ G ((mi 7) + 1).toNat = 94 := by
        rcases h94 with q | q
        · exact ⟨q.1, q.2.symm.trans c_148⟩
        · exact absurd (q.2.symm.trans c_148) (by decide)
      have hS : mrun σ0 G (((mi 7) + 1) + 1).toNat = .inl (5, mi 8, mi 9 + 1, va_up (ma 5) (mi 9).toNat 0, va_up (ma 6) (mi 9).toNat 0, va_up (ma 7) (mi 9).toNat 1, va_up (ma 8) (mi 9).toNat 1) := rd_brid (by omega) hT hx94.2
      refine ⟨⟨⟨show 0 ≤ ((mi 7) + 1) + 1 by omega, show ((mi 7) + 1) + 1 ≤ nn by omega⟩, ⟨show 0 ≤ mi 9 + 1 by omega, show mi 9 + 1 ≤ 16 by omega⟩, h8, 5, hS, ?_⟩, show mi 7 < ((mi 7) + 1) + 1 by omega, fun k a1 a2 a3 => by rw [up_n a3, up_n a1, up_n a1], fun k a1 a2 a3 a4 => by rw [up_n a4, up_n a3, up_n a2, up_n a1], MQ8_up (ma := ma) (j := (mi 9).toNat) (a := 0) (b := 0) (c := 1) (d := 1) hq8 (by omega) (by omega) (by omega) (by omega) rfl rfl rfl rfl⟩
      exact Or.inr (Or.inr rfl)), rfl⟩, rfl⟩
    · refine z_iload_n (j := 0) dX8_readsCell_22 rfl rfl ?_
      refine z_bipush dX8_readsCell_23 (by decide) ?_
      refine z_icmp_eq (tgt := 42) dX8_readsCell_25 (by decide) (by omega) (by decide) (fun c_25 => ?_) (fun c_25 => ?_)
      · have hq7 : mi 7 < nn ∧ G (mi 7).toNat = 103 := by
          rcases he_3.1 with q | q
          · exact ⟨q.1, q.2.symm.trans c_25⟩
          · exact absurd (q.2.symm.trans c_25) (by decide)
        have hL := rd_let (kind := 0) (deep := 0) hM hq7.1 c_13 (by omega)
        rw [if_pos rfl] at hL
        rw [c_25]
        refine z_aload_n (j := 1) dX8_readsCell_42 rfl rfl ?_
        refine z_dup dX8_readsCell_43 rfl ?_
        refine z_getf (i := 0) (ci := 8) (k := 7) (v := .int (iI (mi 7))) dX8_readsCell_44 m_X8_readsCell_f82 in_X8_readsCell_X8 rfl (by decide) rfl (by omega) rfl rfl ?_
        refine z_iconst dX8_readsCell_47 ?_
        refine z_iadd dX8_readsCell_48 ?_
        refine z_putf (i := 0) (ci := 8) (k := 7) (cM cI cJ cZ q (va_up mi 7 ((mi 7) + 1)) ma) dX8_readsCell_49 m_X8_readsCell_f82 in_X8_readsCell_X8 rfl (by decide) rfl (by omega) rfl tyX8_ok nmX8 rfl rfl rfl (Nat.le_of_ble_eq_true rfl) lm_7 ?_
        refine z_iload_n (j := 0) dX8_readsCell_52 rfl rfl ?_
        refine z_bipush dX8_readsCell_53 (by decide) ?_
        refine z_icmp_ne (tgt := 62) dX8_readsCell_55 (by decide) (by decide) (by decide) (fun _ => ?_) (fun h => absurd h (by decide))
        refine z_aload_n (j := 1) dX8_readsCell_62 rfl rfl ?_
        refine z_iload_n (j := 2) dX8_readsCell_63 rfl rfl ?_
        refine z_iload_n (j := 3) dX8_readsCell_64 rfl rfl ?_
        refine z_bipush dX8_readsCell_65 (by decide) ?_
        refine z_callVi (i := 0) (ci := 8) (As := [.int (iI at0), .int (iI nn), .int (iI 9)]) (rest := []) (c_X8_figure  hq hSn hG (by omega) (by rw [up_s]; omega) (by omega)) dX8_readsCell_67 gX8_readsCell_X8_figure rfl cd_X8_figure ⟨Nat.le_of_ble_eq_true rfl, Nat.le_of_ble_eq_true rfl⟩ rfl rfl (by omega) rfl rfl rfl (Nat.le_of_ble_eq_true rfl) ⟨Nat.zero_le _, Nat.zero_le _⟩ (fun r_67 g_67 hp_67 => ?_)
        obtain ⟨e_67, mi_67, he_67, rfl, rfl⟩ := hp_67
        refine z_istore [(4, .int (iI e_67)), (3, .int (iI 103)), (0, .ref (q 0)), (1, .int (iI at0)), (2, .int (iI nn))] dX8_readsCell_70 (by decide) rfl ?_
        refine z_iload (j := 0) dX8_readsCell_72 rfl ?_
        refine z_if_ge (tgt := 79) dX8_readsCell_74 (by decide) (by omega) (fun c_74 => ?_) (fun c_74 => ?_)
        · obtain ⟨g1, g234, g5⟩ := he_67.resolve_right (fun h => absurd h.1 (by omega))
          have g1b : mi 7 + 1 < nn := by rw [up_s] at g1; exact g1
          have g6 : mi_67 = va_up mi 7 (mi 7 + 1 + 1) := by rw [g5, up_s, bx_uu]
          rw [g6]
          have hT := rd_mud (v := e_67) (by omega) hL g234
          obtain ⟨-, g3, g4⟩ := g234
          refine z_aload_n (j := 2) dX8_readsCell_79 rfl rfl ?_
          refine z_getf (i := 0) (ci := 8) (k := 10) (v := .ref (q 5)) dX8_readsCell_80 m_X8_readsCell_f22 in_X8_readsCell_X8 rfl (by decide) rfl (by omega) rfl rfl ?_
          refine z_aload_n (j := 2) dX8_readsCell_83 rfl rfl ?_
          refine z_getf (i := 0) (ci := 8) (k := 9) (v := .int (iI (mi 9))) dX8_readsCell_84 m_X8_readsCell_f89 in_X8_readsCell_X8 rfl (by decide) rfl (by omega) rfl rfl ?_
          refine z_iload_n (j := 1) dX8_readsCell_87 rfl rfl ?_
          refine z_bipush dX8_readsCell_88 (by decide) ?_
          refine z_icmp_ne (tgt := 97) dX8_readsCell_90 (by decide) (by decide) (by decide) (fun _ => ?_) (fun h => absurd h (by decide))
          refine z_iload_n (j := 1) dX8_readsCell_97 rfl rfl ?_
          refine z_bipush dX8_readsCell_98 (by decide) ?_
          refine z_icmp_ne (tgt := 107) dX8_readsCell_100 (by decide) (by decide) (by decide) (fun _ => ?_) (fun h => absurd h (by decide))
          refine z_iconst dX8_readsCell_107 ?_
          refine z_iast (i := 5) (g := ma 5) 0 (cM cI cJ cZ q (va_up mi 7 (mi 7 + 1 + 1)) (va_up ma 5 (va_up (ma 5) (mi 9).toNat 0))) dX8_readsCell_108 (by omega) rfl rfl (by omega) (by omega) (by omega) la_5 ?_
          refine z_aload_n (j := 2) dX8_readsCell_109 rfl rfl ?_
          refine z_getf (i := 0) (ci := 8) (k := 11) (v := .ref (q 6)) dX8_readsCell_110 m_X8_readsCell_f25 in_X8_readsCell_X8 rfl (by decide) rfl (by omega) rfl rfl ?_
          refine z_aload_n (j := 2) dX8_readsCell_113 rfl rfl ?_
          refine z_getf (i := 0) (ci := 8) (k := 9) (v := .int (iI (mi 9))) dX8_readsCell_114 m_X8_readsCell_f89 in_X8_readsCell_X8 rfl (by decide) rfl (by omega) rfl rfl ?_
          refine z_iload (j := 0) dX8_readsCell_117 rfl ?_
          refine z_iast (i := 6) (g := ma 6) 0 (cM cI cJ cZ q (va_up mi 7 (mi 7 + 1 + 1)) (va_up (va_up ma 5 (va_up (ma 5) (mi 9).toNat 0)) 6 (va_up ((va_up ma 5 (va_up (ma 5) (mi 9).toNat 0)) 6) (mi 9).toNat e_67))) dX8_readsCell_119 (by omega) rfl rfl (by omega) (by omega) (by omega) la_6 ?_
          refine z_aload_n (j := 2) dX8_readsCell_120 rfl rfl ?_
          refine z_getf (i := 0) (ci := 8) (k := 12) (v := .ref (q 7)) dX8_readsCell_121 m_X8_readsCell_f28 in_X8_readsCell_X8 rfl (by decide) rfl (by omega) rfl rfl ?_
          refine z_aload_n (j := 2) dX8_readsCell_124 rfl rfl ?_
          refine z_getf (i := 0) (ci := 8) (k := 9) (v := .int (iI (mi 9))) dX8_readsCell_125 m_X8_readsCell_f89 in_X8_readsCell_X8 rfl (by decide) rfl (by omega) rfl rfl ?_
          refine z_iload_n (j := 1) dX8_readsCell_128 rfl rfl ?_
          refine z_bipush dX8_readsCell_129 (by decide) ?_
          refine z_icmp_ne (tgt := 138) dX8_readsCell_131 (by decide) (by decide) (by decide) (fun _ => ?_) (fun h => absurd h (by decide))
          refine z_iconst dX8_readsCell_138 ?_
          refine z_iast (i := 7) (g := ma 7) 0 (cM cI cJ cZ q (va_up mi 7 (mi 7 + 1 + 1)) (va_up (va_up (va_up ma 5 (va_up (ma 5) (mi 9).toNat 0)) 6 (va_up ((va_up ma 5 (va_up (ma 5) (mi 9).toNat 0)) 6) (mi 9).toNat e_67)) 7 (va_up ((va_up (va_up ma 5 (va_up (ma 5) (mi 9).toNat 0)) 6 (va_up ((va_up ma 5 (va_up (ma 5) (mi 9).toNat 0)) 6) (mi 9).toNat e_67)) 7) (mi 9).toNat 0))) dX8_readsCell_139 (by omega) rfl rfl (by omega) (by omega) (by omega) la_7 ?_
          refine z_aload_n (j := 2) dX8_readsCell_140 rfl rfl ?_
          refine z_iload_n (j := 3) dX8_readsCell_141 rfl rfl ?_
          refine z_iload_n (j := 4) dX8_readsCell_142 rfl rfl ?_
          refine z_callVi (i := 0) (ci := 8) (As := [.int (iI at0), .int (iI nn)]) (rest := []) (c_X8_codeAt  hq hSn hG (by omega) (by rw [up_s]; omega)) dX8_readsCell_143 gX8_readsCell_X8_codeAt rfl cd_X8_codeAt ⟨Nat.le_of_ble_eq_true rfl, Nat.le_of_ble_eq_true rfl⟩ rfl rfl (by omega) rfl rfl rfl (Nat.le_of_ble_eq_true rfl) ⟨Nat.zero_le _, Nat.zero_le _⟩ (fun r_143 g_143 hp_143 => ?_)
          obtain ⟨⟨e_143, he_143, rfl⟩, rfl⟩ := hp_143
          have h94 : (mi 7 + 1 + 1 < nn ∧ e_143 = G (mi 7 + 1 + 1).toNat) ∨ (nn ≤ mi 7 + 1 + 1 ∧ e_143 = -9) := he_143.1
          have hr143 := he_143.2
          refine z_bipush dX8_readsCell_146 (by decide) ?_
          refine z_icmp_ne (tgt := 155) dX8_readsCell_148 (by decide) (by omega) (by decide) (fun c_148 => ?_) (fun c_148 => ?_)
          · refine z_iconst dX8_readsCell_155 ?_
            refine z_istore [(5, .int (iI 0)), (4, .int (iI e_67)), (3, .int (iI 103)), (0, .ref (q 0)), (1, .int (iI at0)), (2, .int (iI nn))] dX8_readsCell_156 (by decide) rfl ?_
            refine z_aload_n (j := 3) dX8_readsCell_158 rfl rfl ?_
            refine z_getf (i := 0) (ci := 8) (k := 13) (v := .ref (q 8)) dX8_readsCell_159 m_X8_readsCell_f31 in_X8_readsCell_X8 rfl (by decide) rfl (by omega) rfl rfl ?_
            refine z_aload_n (j := 3) dX8_readsCell_162 rfl rfl ?_
            refine z_getf (i := 0) (ci := 8) (k := 9) (v := .int (iI (mi 9))) dX8_readsCell_163 m_X8_readsCell_f89 in_X8_readsCell_X8 rfl (by decide) rfl (by omega) rfl rfl ?_
            refine z_iload (j := 0) dX8_readsCell_166 rfl ?_
            refine z_if_eq (tgt := 175) dX8_readsCell_168 (by decide) (by decide) (fun _ => ?_) (fun h => absurd h (by decide))
            refine z_iconst dX8_readsCell_175 ?_
            refine z_iast (i := 8) (g := ma 8) 0 (cM cI cJ cZ q (va_up mi 7 (mi 7 + 1 + 1)) (va_up (va_up (va_up (va_up ma 5 (va_up (ma 5) (mi 9).toNat 0)) 6 (va_up ((va_up ma 5 (va_up (ma 5) (mi 9).toNat 0)) 6) (mi 9).toNat e_67)) 7 (va_up ((va_up (va_up ma 5 (va_up (ma 5) (mi 9).toNat 0)) 6 (va_up ((va_up ma 5 (va_up (ma 5) (mi 9).toNat 0)) 6) (mi 9).toNat e_67)) 7) (mi 9).toNat 0)) 8 (va_up ((va_up (va_up (va_up ma 5 (va_up (ma 5) (mi 9).toNat 0)) 6 (va_up ((va_up ma 5 (va_up (ma 5) (mi 9).toNat 0)) 6) (mi 9).toNat e_67)) 7 (va_up ((va_up (va_up ma 5 (va_up (ma 5) (mi 9).toNat 0)) 6 (va_up ((va_up ma 5 (va_up (ma 5) (mi 9).toNat 0)) 6) (mi 9).toNat e_67)) 7) (mi 9).toNat 0)) 8) (mi 9).toNat 0))) dX8_readsCell_176 (by omega) rfl rfl (by omega) (by omega) (by omega) la_8 ?_
            refine z_aload_n (j := 3) dX8_readsCell_177 rfl rfl ?_
            refine z_dup dX8_readsCell_178 rfl ?_
            refine z_getf (i := 0) (ci := 8) (k := 7) (v := .int (iI (mi 7 + 1 + 1))) dX8_readsCell_179 m_X8_readsCell_f82 in_X8_readsCell_X8 rfl (by decide) rfl (by omega) rfl rfl ?_
            refine z_iload (j := 0) dX8_readsCell_182 rfl ?_
            refine z_if_eq (tgt := 191) dX8_readsCell_184 (by decide) (by decide) (fun _ => ?_) (fun h => absurd h (by decide))
            refine z_iconst dX8_readsCell_191 ?_
            refine z_iadd dX8_readsCell_192 ?_
            refine z_putf (i := 0) (ci := 8) (k := 7) (cM cI cJ cZ q (va_up (va_up mi 7 (mi 7 + 1 + 1)) 7 ((mi 7 + 1 + 1) + 0)) (va_up (va_up (va_up (va_up ma 5 (va_up (ma 5) (mi 9).toNat 0)) 6 (va_up ((va_up ma 5 (va_up (ma 5) (mi 9).toNat 0)) 6) (mi 9).toNat e_67)) 7 (va_up ((va_up (va_up ma 5 (va_up (ma 5) (mi 9).toNat 0)) 6 (va_up ((va_up ma 5 (va_up (ma 5) (mi 9).toNat 0)) 6) (mi 9).toNat e_67)) 7) (mi 9).toNat 0)) 8 (va_up ((va_up (va_up (va_up ma 5 (va_up (ma 5) (mi 9).toNat 0)) 6 (va_up ((va_up ma 5 (va_up (ma 5) (mi 9).toNat 0)) 6) (mi 9).toNat e_67)) 7 (va_up ((va_up (va_up ma 5 (va_up (ma 5) (mi 9).toNat 0)) 6 (va_up ((va_up ma 5 (va_up (ma 5) (mi 9).toNat 0)) 6) (mi 9).toNat e_67)) 7) (mi 9).toNat 0)) 8) (mi 9).toNat 0))) dX8_readsCell_193 m_X8_readsCell_f82 in_X8_readsCell_X8 rfl (by decide) rfl (by omega) rfl tyX8_ok nmX8 rfl rfl rfl (Nat.le_of_ble_eq_true rfl) lm_7 ?_
            refine z_aload_n (j := 3) dX8_readsCell_196 rfl rfl ?_
            refine z_dup dX8_readsCell_197 rfl ?_
            refine z_getf (i := 0) (ci := 8) (k := 9) (v := .int (iI (mi 9))) dX8_readsCell_198 m_X8_readsCell_f89 in_X8_readsCell_X8 rfl (by decide) rfl (by omega) rfl rfl ?_
            refine z_iconst dX8_readsCell_201 ?_
            refine z_iadd dX8_readsCell_202 ?_
            refine z_putf (i := 0) (ci := 8) (k := 9) (cM cI cJ cZ q (va_up (va_up (va_up mi 7 (mi 7 + 1 + 1)) 7 ((mi 7 + 1 + 1) + 0)) 9 ((mi 9) + 1)) (va_up (va_up (va_up (va_up ma 5 (va_up (ma 5) (mi 9).toNat 0)) 6 (va_up ((va_up ma 5 (va_up (ma 5) (mi 9).toNat 0)) 6) (mi 9).toNat e_67)) 7 (va_up ((va_up (va_up ma 5 (va_up (ma 5) (mi 9).toNat 0)) 6 (va_up ((va_up ma 5 (va_up (ma 5) (mi 9).toNat 0)) 6) (mi 9).toNat e_67)) 7) (mi 9).toNat 0)) 8 (va_up ((va_up (va_up (va_up ma 5 (va_up (ma 5) (mi 9).toNat 0)) 6 (va_up ((va_up ma 5 (va_up (ma 5) (mi 9).toNat 0)) 6) (mi 9).toNat e_67)) 7 (va_up ((va_up (va_up ma 5 (va_up (ma 5) (mi 9).toNat 0)) 6 (va_up ((va_up ma 5 (va_up (ma 5) (mi 9).toNat 0)) 6) (mi 9).toNat e_67)) 7) (mi 9).toNat 0)) 8) (mi 9).toNat 0))) dX8_readsCell_203 m_X8_readsCell_f89 in_X8_readsCell_X8 rfl (by decide) rfl (by omega) rfl tyX8_ok nmX8 rfl rfl rfl (Nat.le_of_ble_eq_true rfl) lm_9 ?_
            refine z_iconst dX8_readsCell_206 ?_
            exact z_zret dX8_readsCell_207 (Or.inr rfl) ⟨_, _, Or.inl ⟨(by
      have hS : mrun σ0 G ((mi 7 + 1 + 1) + 0).toNat = .inl (4, mi 8, mi 9 + 1, va_up (ma 5) (mi 9).toNat 0, va_up (ma 6) (mi 9).toNat e_67, va_up (ma 7) (mi 9).toNat 0, va_up (ma 8) (mi 9).toNat 0) := by rw [Int.add_zero]; exact hT
      refine ⟨⟨⟨show 0 ≤ (mi 7 + 1 + 1) + 0 by omega, show (mi 7 + 1 + 1) + 0 ≤ nn by omega⟩, ⟨show 0 ≤ mi 9 + 1 by omega, show mi 9 + 1 ≤ 16 by omega⟩, h8, 4, hS, ?_⟩, show mi 7 < (mi 7 + 1 + 1) + 0 by omega, fun k a1 a2 a3 => by rw [up_n a3, up_n a1, up_n a1], fun k a1 a2 a3 a4 => by rw [up_n a4, up_n a3, up_n a2, up_n a1], MQ8_up (ma := ma) (j := (mi 9).toNat) (a := 0) (b := e_67) (c := 0) (d := 0) hq8 (by omega) (by omega) (by omega) (by omega) rfl rfl rfl rfl⟩
      refine Or.inr (Or.inl ⟨rfl, fun q => ?_⟩)
      have q2 : (mi 7 + 1 + 1) + 0 < nn := q
      show ¬ G ((mi 7 + 1 + 1) + 0).toNat = 94
      rw [Int.add_zero]
      rcases h94 with g | g
      · exact fun w => c_148 (g.2.trans w)
      · exact absurd q2 (by omega)), rfl⟩, rfl⟩
          · refine z_iconst dX8_readsCell_151 ?_
            refine z_goto (tgt := 156) dX8_readsCell_152 (by decide) ?_
            refine z_istore [(5, .int (iI 1)), (4, .int (iI e_67)), (3, .int (iI 103)), (0, .ref (q 0)), (1, .int (iI at0)), (2, .int (iI nn))] dX8_readsCell_156 (by decide) rfl ?_
            refine z_aload_n (j := 3) dX8_readsCell_158 rfl rfl ?_
            refine z_getf (i := 0) (ci := 8) (k := 13) (v := .ref (q 8)) dX8_readsCell_159 m_X8_readsCell_f31 in_X8_readsCell_X8 rfl (by decide) rfl (by omega) rfl rfl ?_
            refine z_aload_n (j := 3) dX8_readsCell_162 rfl rfl ?_
            refine z_getf (i := 0) (ci := 8) (k := 9) (v := .int (iI (mi 9))) dX8_readsCell_163 m_X8_readsCell_f89 in_X8_readsCell_X8 rfl (by decide) rfl (by omega) rfl rfl ?_
            refine z_iload (j := 0) dX8_readsCell_166 rfl ?_
            refine z_if_eq (tgt := 175) dX8_readsCell_168 (by decide) (by decide) (fun h => absurd h (by decide)) (fun _ => ?_)
            refine z_iconst dX8_readsCell_171 ?_
            refine z_goto (tgt := 176) dX8_readsCell_172 (by decide) ?_
            refine z_iast (i := 8) (g := ma 8) 0 (cM cI cJ cZ q (va_up mi 7 (mi 7 + 1 + 1)) (va_up (va_up (va_up (va_up ma 5 (va_up (ma 5) (mi 9).toNat 0)) 6 (va_up ((va_up ma 5 (va_up (ma 5) (mi 9).toNat 0)) 6) (mi 9).toNat e_67)) 7 (va_up ((va_up (va_up ma 5 (va_up (ma 5) (mi 9).toNat 0)) 6 (va_up ((va_up ma 5 (va_up (ma 5) (mi 9).toNat 0)) 6) (mi 9).toNat e_67)) 7) (mi 9).toNat 0)) 8 (va_up ((va_up (va_up (va_up ma 5 (va_up (ma 5) (mi 9).toNat 0)) 6 (va_up ((va_up ma 5 (va_up (ma 5) (mi 9).toNat 0)) 6) (mi 9).toNat e_67)) 7 (va_up ((va_up (va_up ma 5 (va_up (ma 5) (mi 9).toNat 0)) 6 (va_up ((va_up ma 5 (va_up (ma 5) (mi 9).toNat 0)) 6) (mi 9).toNat e_67)) 7) (mi 9).toNat 0)) 8) (mi 9).toNat 1))) dX8_readsCell_176 (by omega) rfl rfl (by omega) (by omega) (by omega) la_8 ?_
            refine z_aload_n (j := 3) dX8_readsCell_177 rfl rfl ?_
            refine z_dup dX8_readsCell_178 rfl ?_
            refine z_getf (i := 0) (ci := 8) (k := 7) (v := .int (iI (mi 7 + 1 + 1))) dX8_readsCell_179 m_X8_readsCell_f82 in_X8_readsCell_X8 rfl (by decide) rfl (by omega) rfl rfl ?_
            refine z_iload (j := 0) dX8_readsCell_182 rfl ?_
            refine z_if_eq (tgt := 191) dX8_readsCell_184 (by decide) (by decide) (fun h => absurd h (by decide)) (fun _ => ?_)
            refine z_iconst dX8_readsCell_187 ?_
            refine z_goto (tgt := 192) dX8_readsCell_188 (by decide) ?_
            refine z_iadd dX8_readsCell_192 ?_
            refine z_putf (i := 0) (ci := 8) (k := 7) (cM cI cJ cZ q (va_up (va_up mi 7 (mi 7 + 1 + 1)) 7 ((mi 7 + 1 + 1) + 1)) (va_up (va_up (va_up (va_up ma 5 (va_up (ma 5) (mi 9).toNat 0)) 6 (va_up ((va_up ma 5 (va_up (ma 5) (mi 9).toNat 0)) 6) (mi 9).toNat e_67)) 7 (va_up ((va_up (va_up ma 5 (va_up (ma 5) (mi 9).toNat 0)) 6 (va_up ((va_up ma 5 (va_up (ma 5) (mi 9).toNat 0)) 6) (mi 9).toNat e_67)) 7) (mi 9).toNat 0)) 8 (va_up ((va_up (va_up (va_up ma 5 (va_up (ma 5) (mi 9).toNat 0)) 6 (va_up ((va_up ma 5 (va_up (ma 5) (mi 9).toNat 0)) 6) (mi 9).toNat e_67)) 7 (va_up ((va_up (va_up ma 5 (va_up (ma 5) (mi 9).toNat 0)) 6 (va_up ((va_up ma 5 (va_up (ma 5) (mi 9).toNat 0)) 6) (mi 9).toNat e_67)) 7) (mi 9).toNat 0)) 8) (mi 9).toNat 1))) dX8_readsCell_193 m_X8_readsCell_f82 in_X8_readsCell_X8 rfl (by decide) rfl (by omega) rfl tyX8_ok nmX8 rfl rfl rfl (Nat.le_of_ble_eq_true rfl) lm_7 ?_
            refine z_aload_n (j := 3) dX8_readsCell_196 rfl rfl ?_
            refine z_dup dX8_readsCell_197 rfl ?_
            refine z_getf (i := 0) (ci := 8) (k := 9) (v := .int (iI (mi 9))) dX8_readsCell_198 m_X8_readsCell_f89 in_X8_readsCell_X8 rfl (by decide) rfl (by omega) rfl rfl ?_
            refine z_iconst dX8_readsCell_201 ?_
            refine z_iadd dX8_readsCell_202 ?_
            refine z_putf (i := 0) (ci := 8) (k := 9) (cM cI cJ cZ q (va_up (va_up (va_up mi 7 (mi 7 + 1 + 1)) 7 ((mi 7 + 1 + 1) + 1)) 9 ((mi 9) + 1)) (va_up (va_up (va_up (va_up ma 5 (va_up (ma 5) (mi 9).toNat 0)) 6 (va_up ((va_up ma 5 (va_up (ma 5) (mi 9).toNat 0)) 6) (mi 9).toNat e_67)) 7 (va_up ((va_up (va_up ma 5 (va_up (ma 5) (mi 9).toNat 0)) 6 (va_up ((va_up ma 5 (va_up (ma 5) (mi 9).toNat 0)) 6) (mi 9).toNat e_67)) 7) (mi 9).toNat 0)) 8 (va_up ((va_up (va_up (va_up ma 5 (va_up (ma 5) (mi 9).toNat 0)) 6 (va_up ((va_up ma 5 (va_up (ma 5) (mi 9).toNat 0)) 6) (mi 9).toNat e_67)) 7 (va_up ((va_up (va_up ma 5 (va_up (ma 5) (mi 9).toNat 0)) 6 (va_up ((va_up ma 5 (va_up (ma 5) (mi 9).toNat 0)) 6) (mi 9).toNat e_67)) 7) (mi 9).toNat 0)) 8) (mi 9).toNat 1))) dX8_readsCell_203 m_X8_readsCell_f89 in_X8_readsCell_X8 rfl (by decide) rfl (by omega) rfl tyX8_ok nmX8 rfl rfl rfl (Nat.le_of_ble_eq_true rfl) lm_9 ?_
            refine z_iconst dX8_readsCell_206 ?_
            exact z_zret dX8_readsCell_207 (Or.inr rfl) ⟨_, _, Or.inl ⟨(by
      have hx94 : mi 7 + 1 + 1 < nn ∧ G (mi 7 + 1 + 1).toNat = 94 := by
        rcases h94 with q | q
        · exact ⟨q.1, q.2.symm.trans c_148⟩
        · exact absurd (q.2.symm.trans c_148) (by decide)
      have hS : mrun σ0 G ((mi 7 + 1 + 1) + 1).toNat = .inl (5, mi 8, mi 9 + 1, va_up (ma 5) (mi 9).toNat 0, va_up (ma 6) (mi 9).toNat e_67, va_up (ma 7) (mi 9).toNat 0, va_up (ma 8) (mi 9).toNat 1) := rd_brid (by omega) hT hx94.2
      refine ⟨⟨⟨show 0 ≤ (mi 7 + 1 + 1) + 1 by omega, show (mi 7 + 1 + 1) + 1 ≤ nn by omega⟩, ⟨show 0 ≤ mi 9 + 1 by omega, show mi 9 + 1 ≤ 16 by omega⟩, h8, 5, hS, ?_⟩, show mi 7 < (mi 7 + 1 + 1) + 1 by omega, fun k a1 a2 a3 => by rw [up_n a3, up_n a1, up_n a1], fun k a1 a2 a3 a4 => by rw [up_n a4, up_n a3, up_n a2, up_n a1], MQ8_up (ma := ma) (j := (mi 9).toNat) (a := 0) (b := e_67) (c := 0) (d := 1) hq8 (by omega) (by omega) (by omega) (by omega) rfl rfl rfl rfl⟩
      exact Or.inr (Or.inr rfl)), rfl⟩, rfl⟩
        · refine z_iconst dX8_readsCell_77 ?_
          exact z_zret dX8_readsCell_78 (Or.inl rfl) ⟨_, _, Or.inr ⟨(by
      obtain ⟨g1, g2, g5⟩ := he_67.resolve_left (fun h => absurd h.2.1.2.1 (by omega))
      rw [g5]
      exact ⟨rd_mudF (by rw [up_s]; omega) hL g2, by rw [up_s]; omega, fun k a1 a2 a3 => up_n a1, fun _ _ _ _ _ => rfl, hq8⟩), rfl⟩, rfl⟩
      · refine z_iload_n (j := 0) dX8_readsCell_28 rfl rfl ?_
        refine z_bipush dX8_readsCell_29 (by decide) ?_
        refine z_icmp_eq (tgt := 42) dX8_readsCell_31 (by decide) (by omega) (by decide) (fun c_31 => ?_) (fun c_31 => ?_)
        · have hq7 : mi 7 < nn ∧ G (mi 7).toNat = 109 := by
            rcases he_3.1 with q | q
            · exact ⟨q.1, q.2.symm.trans c_31⟩
            · exact absurd (q.2.symm.trans c_31) (by decide)
          have hL := rd_let (kind := 1) (deep := 0) hM hq7.1 c_13 (by omega)
          rw [if_pos rfl] at hL
          rw [c_31]
          refine z_aload_n (j := 1) dX8_readsCell_42 rfl rfl ?_
          refine z_dup dX8_readsCell_43 rfl ?_
          refine z_getf (i := 0) (ci := 8) (k := 7) (v := .int (iI (mi 7))) dX8_readsCell_44 m_X8_readsCell_f82 in_X8_readsCell_X8 rfl (by decide) rfl (by omega) rfl rfl ?_
          refine z_iconst dX8_readsCell_47 ?_
          refine z_iadd dX8_readsCell_48 ?_
          refine z_putf (i := 0) (ci := 8) (k := 7) (cM cI cJ cZ q (va_up mi 7 ((mi 7) + 1)) ma) dX8_readsCell_49 m_X8_readsCell_f82 in_X8_readsCell_X8 rfl (by decide) rfl (by omega) rfl tyX8_ok nmX8 rfl rfl rfl (Nat.le_of_ble_eq_true rfl) lm_7 ?_
          refine z_iload_n (j := 0) dX8_readsCell_52 rfl rfl ?_
          refine z_bipush dX8_readsCell_53 (by decide) ?_
          refine z_icmp_ne (tgt := 62) dX8_readsCell_55 (by decide) (by decide) (by decide) (fun _ => ?_) (fun h => absurd h (by decide))
          refine z_aload_n (j := 1) dX8_readsCell_62 rfl rfl ?_
          refine z_iload_n (j := 2) dX8_readsCell_63 rfl rfl ?_
          refine z_iload_n (j := 3) dX8_readsCell_64 rfl rfl ?_
          refine z_bipush dX8_readsCell_65 (by decide) ?_
          refine z_callVi (i := 0) (ci := 8) (As := [.int (iI at0), .int (iI nn), .int (iI 9)]) (rest := []) (c_X8_figure  hq hSn hG (by omega) (by rw [up_s]; omega) (by omega)) dX8_readsCell_67 gX8_readsCell_X8_figure rfl cd_X8_figure ⟨Nat.le_of_ble_eq_true rfl, Nat.le_of_ble_eq_true rfl⟩ rfl rfl (by omega) rfl rfl rfl (Nat.le_of_ble_eq_true rfl) ⟨Nat.zero_le _, Nat.zero_le _⟩ (fun r_67 g_67 hp_67 => ?_)
          obtain ⟨e_67, mi_67, he_67, rfl, rfl⟩ := hp_67
          refine z_istore [(4, .int (iI e_67)), (3, .int (iI 109)), (0, .ref (q 0)), (1, .int (iI at0)), (2, .int (iI nn))] dX8_readsCell_70 (by decide) rfl ?_
          refine z_iload (j := 0) dX8_readsCell_72 rfl ?_
          refine z_if_ge (tgt := 79) dX8_readsCell_74 (by decide) (by omega) (fun c_74 => ?_) (fun c_74 => ?_)
          · obtain ⟨g1, g234, g5⟩ := he_67.resolve_right (fun h => absurd h.1 (by omega))
            have g1b : mi 7 + 1 < nn := by rw [up_s] at g1; exact g1
            have g6 : mi_67 = va_up mi 7 (mi 7 + 1 + 1) := by rw [g5, up_s, bx_uu]
            rw [g6]
            have hT := rd_mud (v := e_67) (by omega) hL g234
            obtain ⟨-, g3, g4⟩ := g234
            refine z_aload_n (j := 2) dX8_readsCell_79 rfl rfl ?_
            refine z_getf (i := 0) (ci := 8) (k := 10) (v := .ref (q 5)) dX8_readsCell_80 m_X8_readsCell_f22 in_X8_readsCell_X8 rfl (by decide) rfl (by omega) rfl rfl ?_
            refine z_aload_n (j := 2) dX8_readsCell_83 rfl rfl ?_
            refine z_getf (i := 0) (ci := 8) (k := 9) (v := .int (iI (mi 9))) dX8_readsCell_84 m_X8_readsCell_f89 in_X8_readsCell_X8 rfl (by decide) rfl (by omega) rfl rfl ?_
            refine z_iload_n (j := 1) dX8_readsCell_87 rfl rfl ?_
            refine z_bipush dX8_readsCell_88 (by decide) ?_
            refine z_icmp_ne (tgt := 97) dX8_readsCell_90 (by decide) (by decide) (by decide) (fun h => absurd h (by decide)) (fun _ => ?_)
            refine z_iconst dX8_readsCell_93 ?_
            refine z_goto (tgt := 108) dX8_readsCell_94 (by decide) ?_
            refine z_iast (i := 5) (g := ma 5) 0 (cM cI cJ cZ q (va_up mi 7 (mi 7 + 1 + 1)) (va_up ma 5 (va_up (ma 5) (mi 9).toNat 1))) dX8_readsCell_108 (by omega) rfl rfl (by omega) (by omega) (by omega) la_5 ?_
            refine z_aload_n (j := 2) dX8_readsCell_109 rfl rfl ?_
            refine z_getf (i := 0) (ci := 8) (k := 11) (v := .ref (q 6)) dX8_readsCell_110 m_X8_readsCell_f25 in_X8_readsCell_X8 rfl (by decide) rfl (by omega) rfl rfl ?_
            refine z_aload_n (j := 2) dX8_readsCell_113 rfl rfl ?_
            refine z_getf (i := 0) (ci := 8) (k := 9) (v := .int (iI (mi 9))) dX8_readsCell_114 m_X8_readsCell_f89 in_X8_readsCell_X8 rfl (by decide) rfl (by omega) rfl rfl ?_
            refine z_iload (j := 0) dX8_readsCell_117 rfl ?_
            refine z_iast (i := 6) (g := ma 6) 0 (cM cI cJ cZ q (va_up mi 7 (mi 7 + 1 + 1)) (va_up (va_up ma 5 (va_up (ma 5) (mi 9).toNat 1)) 6 (va_up ((va_up ma 5 (va_up (ma 5) (mi 9).toNat 1)) 6) (mi 9).toNat e_67))) dX8_readsCell_119 (by omega) rfl rfl (by omega) (by omega) (by omega) la_6 ?_
            refine z_aload_n (j := 2) dX8_readsCell_120 rfl rfl ?_
            refine z_getf (i := 0) (ci := 8) (k := 12) (v := .ref (q 7)) dX8_readsCell_121 m_X8_readsCell_f28 in_X8_readsCell_X8 rfl (by decide) rfl (by omega) rfl rfl ?_
            refine z_aload_n (j := 2) dX8_readsCell_124 rfl rfl ?_
            refine z_getf (i := 0) (ci := 8) (k := 9) (v := .int (iI (mi 9))) dX8_readsCell_125 m_X8_readsCell_f89 in_X8_readsCell_X8 rfl (by decide) rfl (by omega) rfl rfl ?_
            refine z_iload_n (j := 1) dX8_readsCell_128 rfl rfl ?_
            refine z_bipush dX8_readsCell_129 (by decide) ?_
            refine z_icmp_ne (tgt := 138) dX8_readsCell_131 (by decide) (by decide) (by decide) (fun _ => ?_) (fun h => absurd h (by decide))
            refine z_iconst dX8_readsCell_138 ?_
            refine z_iast (i := 7) (g := ma 7) 0 (cM cI cJ cZ q (va_up mi 7 (mi 7 + 1 + 1)) (va_up (va_up (va_up ma 5 (va_up (ma 5) (mi 9).toNat 1)) 6 (va_up ((va_up ma 5 (va_up (ma 5) (mi 9).toNat 1)) 6) (mi 9).toNat e_67)) 7 (va_up ((va_up (va_up ma 5 (va_up (ma 5) (mi 9).toNat 1)) 6 (va_up ((va_up ma 5 (va_up (ma 5) (mi 9).toNat 1)) 6) (mi 9).toNat e_67)) 7) (mi 9).toNat 0))) dX8_readsCell_139 (by omega) rfl rfl (by omega) (by omega) (by omega) la_7 ?_
            refine z_aload_n (j := 2) dX8_readsCell_140 rfl rfl ?_
            refine z_iload_n (j := 3) dX8_readsCell_141 rfl rfl ?_
            refine z_iload_n (j := 4) dX8_readsCell_142 rfl rfl ?_
            refine z_callVi (i := 0) (ci := 8) (As := [.int (iI at0), .int (iI nn)]) (rest := []) (c_X8_codeAt  hq hSn hG (by omega) (by rw [up_s]; omega)) dX8_readsCell_143 gX8_readsCell_X8_codeAt rfl cd_X8_codeAt ⟨Nat.le_of_ble_eq_true rfl, Nat.le_of_ble_eq_true rfl⟩ rfl rfl (by omega) rfl rfl rfl (Nat.le_of_ble_eq_true rfl) ⟨Nat.zero_le _, Nat.zero_le _⟩ (fun r_143 g_143 hp_143 => ?_)
            obtain ⟨⟨e_143, he_143, rfl⟩, rfl⟩ := hp_143
            have h94 : (mi 7 + 1 + 1 < nn ∧ e_143 = G (mi 7 + 1 + 1).toNat) ∨ (nn ≤ mi 7 + 1 + 1 ∧ e_143 = -9) := he_143.1
            have hr143 := he_143.2
            refine z_bipush dX8_readsCell_146 (by decide) ?_
            refine z_icmp_ne (tgt := 155) dX8_readsCell_148 (by decide) (by omega) (by decide) (fun c_148 => ?_) (fun c_148 => ?_)
            · refine z_iconst dX8_readsCell_155 ?_
              refine z_istore [(5, .int (iI 0)), (4, .int (iI e_67)), (3, .int (iI 109)), (0, .ref (q 0)), (1, .int (iI at0)), (2, .int (iI nn))] dX8_readsCell_156 (by decide) rfl ?_
              refine z_aload_n (j := 3) dX8_readsCell_158 rfl rfl ?_
              refine z_getf (i := 0) (ci := 8) (k := 13) (v := .ref (q 8)) dX8_readsCell_159 m_X8_readsCell_f31 in_X8_readsCell_X8 rfl (by decide) rfl (by omega) rfl rfl ?_
              refine z_aload_n (j := 3) dX8_readsCell_162 rfl rfl ?_
              refine z_getf (i := 0) (ci := 8) (k := 9) (v := .int (iI (mi 9))) dX8_readsCell_163 m_X8_readsCell_f89 in_X8_readsCell_X8 rfl (by decide) rfl (by omega) rfl rfl ?_
              refine z_iload (j := 0) dX8_readsCell_166 rfl ?_
              refine z_if_eq (tgt := 175) dX8_readsCell_168 (by decide) (by decide) (fun _ => ?_) (fun h => absurd h (by decide))
              refine z_iconst dX8_readsCell_175 ?_
              refine z_iast (i := 8) (g := ma 8) 0 (cM cI cJ cZ q (va_up mi 7 (mi 7 + 1 + 1)) (va_up (va_up (va_up (va_up ma 5 (va_up (ma 5) (mi 9).toNat 1)) 6 (va_up ((va_up ma 5 (va_up (ma 5) (mi 9).toNat 1)) 6) (mi 9).toNat e_67)) 7 (va_up ((va_up (va_up ma 5 (va_up (ma 5) (mi 9).toNat 1)) 6 (va_up ((va_up ma 5 (va_up (ma 5) (mi 9).toNat 1)) 6) (mi 9).toNat e_67)) 7) (mi 9).toNat 0)) 8 (va_up ((va_up (va_up (va_up ma 5 (va_up (ma 5) (mi 9).toNat 1)) 6 (va_up ((va_up ma 5 (va_up (ma 5) (mi 9).toNat 1)) 6) (mi 9).toNat e_67)) 7 (va_up ((va_up (va_up ma 5 (va_up (ma 5) (mi 9).toNat 1)) 6 (va_up ((va_up ma 5 (va_up (ma 5) (mi 9).toNat 1)) 6) (mi 9).toNat e_67)) 7) (mi 9).toNat 0)) 8) (mi 9).toNat 0))) dX8_readsCell_176 (by omega) rfl rfl (by omega) (by omega) (by omega) la_8 ?_
              refine z_aload_n (j := 3) dX8_readsCell_177 rfl rfl ?_
              refine z_dup dX8_readsCell_178 rfl ?_
              refine z_getf (i := 0) (ci := 8) (k := 7) (v := .int (iI (mi 7 + 1 + 1))) dX8_readsCell_179 m_X8_readsCell_f82 in_X8_readsCell_X8 rfl (by decide) rfl (by omega) rfl rfl ?_
              refine z_iload (j := 0) dX8_readsCell_182 rfl ?_
              refine z_if_eq (tgt := 191) dX8_readsCell_184 (by decide) (by decide) (fun _ => ?_) (fun h => absurd h (by decide))
              refine z_iconst dX8_readsCell_191 ?_
              refine z_iadd dX8_readsCell_192 ?_
              refine z_putf (i := 0) (ci := 8) (k := 7) (cM cI cJ cZ q (va_up (va_up mi 7 (mi 7 + 1 + 1)) 7 ((mi 7 + 1 + 1) + 0)) (va_up (va_up (va_up (va_up ma 5 (va_up (ma 5) (mi 9).toNat 1)) 6 (va_up ((va_up ma 5 (va_up (ma 5) (mi 9).toNat 1)) 6) (mi 9).toNat e_67)) 7 (va_up ((va_up (va_up ma 5 (va_up (ma 5) (mi 9).toNat 1)) 6 (va_up ((va_up ma 5 (va_up (ma 5) (mi 9).toNat 1)) 6) (mi 9).toNat e_67)) 7) (mi 9).toNat 0)) 8 (va_up ((va_up (va_up (va_up ma 5 (va_up (ma 5) (mi 9).toNat 1)) 6 (va_up ((va_up ma 5 (va_up (ma 5) (mi 9).toNat 1)) 6) (mi 9).toNat e_67)) 7 (va_up ((va_up (va_up ma 5 (va_up (ma 5) (mi 9).toNat 1)) 6 (va_up ((va_up ma 5 (va_up (ma 5) (mi 9).toNat 1)) 6) (mi 9).toNat e_67)) 7) (mi 9).toNat 0)) 8) (mi 9).toNat 0))) dX8_readsCell_193 m_X8_readsCell_f82 in_X8_readsCell_X8 rfl (by decide) rfl (by omega) rfl tyX8_ok nmX8 rfl rfl rfl (Nat.le_of_ble_eq_true rfl) lm_7 ?_
              refine z_aload_n (j := 3) dX8_readsCell_196 rfl rfl ?_
              refine z_dup dX8_readsCell_197 rfl ?_
              refine z_getf (i := 0) (ci := 8) (k := 9) (v := .int (iI (mi 9))) dX8_readsCell_198 m_X8_readsCell_f89 in_X8_readsCell_X8 rfl (by decide) rfl (by omega) rfl rfl ?_
              refine z_iconst dX8_readsCell_201 ?_
              refine z_iadd dX8_readsCell_202 ?_
              refine z_putf (i := 0) (ci := 8) (k := 9) (cM cI cJ cZ q (va_up (va_up (va_up mi 7 (mi 7 + 1 + 1)) 7 ((mi 7 + 1 + 1) + 0)) 9 ((mi 9) + 1)) (va_up (va_up (va_up (va_up ma 5 (va_up (ma 5) (mi 9).toNat 1)) 6 (va_up ((va_up ma 5 (va_up (ma 5) (mi 9).toNat 1)) 6) (mi 9).toNat e_67)) 7 (va_up ((va_up (va_up ma 5 (va_up (ma 5) (mi 9).toNat 1)) 6 (va_up ((va_up ma 5 (va_up (ma 5) (mi 9).toNat 1)) 6) (mi 9).toNat e_67)) 7) (mi 9).toNat 0)) 8 (va_up ((va_up (va_up (va_up ma 5 (va_up (ma 5) (mi 9).toNat 1)) 6 (va_up ((va_up ma 5 (va_up (ma 5) (mi 9).toNat 1)) 6) (mi 9).toNat e_67)) 7 (va_up ((va_up (va_up ma 5 (va_up (ma 5) (mi 9).toNat 1)) 6 (va_up ((va_up ma 5 (va_up (ma 5) (mi 9).toNat 1)) 6) (mi 9).toNat e_67)) 7) (mi 9).toNat 0)) 8) (mi 9).toNat 0))) dX8_readsCell_203 m_X8_readsCell_f89 in_X8_readsCell_X8 rfl (by decide) rfl (by omega) rfl tyX8_ok nmX8 rfl rfl rfl (Nat.le_of_ble_eq_true rfl) lm_9 ?_
              refine z_iconst dX8_readsCell_206 ?_
              exact z_zret dX8_readsCell_207 (Or.inr rfl) ⟨_, _, Or.inl ⟨(by
      have hS : mrun σ0 G ((mi 7 + 1 + 1) + 0).toNat = .inl (4, mi 8, mi 9 + 1, va_up (ma 5) (mi 9).toNat 1, va_up (ma 6) (mi 9).toNat e_67, va_up (ma 7) (mi 9).toNat 0, va_up (ma 8) (mi 9).toNat 0) := by rw [Int.add_zero]; exact hT
      refine ⟨⟨⟨show 0 ≤ (mi 7 + 1 + 1) + 0 by omega, show (mi 7 + 1 + 1) + 0 ≤ nn by omega⟩, ⟨show 0 ≤ mi 9 + 1 by omega, show mi 9 + 1 ≤ 16 by omega⟩, h8, 4, hS, ?_⟩, show mi 7 < (mi 7 + 1 + 1) + 0 by omega, fun k a1 a2 a3 => by rw [up_n a3, up_n a1, up_n a1], fun k a1 a2 a3 a4 => by rw [up_n a4, up_n a3, up_n a2, up_n a1], MQ8_up (ma := ma) (j := (mi 9).toNat) (a := 1) (b := e_67) (c := 0) (d := 0) hq8 (by omega) (by omega) (by omega) (by omega) rfl rfl rfl rfl⟩
      refine Or.inr (Or.inl ⟨rfl, fun q => ?_⟩)
      have q2 : (mi 7 + 1 + 1) + 0 < nn := q
      show ¬ G ((mi 7 + 1 + 1) + 0).toNat = 94
      rw [Int.add_zero]
      rcases h94 with g | g
      · exact fun w => c_148 (g.2.trans w)
      · exact absurd q2 (by omega)), rfl⟩, rfl⟩
            · refine z_iconst dX8_readsCell_151 ?_
              refine z_goto (tgt := 156) dX8_readsCell_152 (by decide) ?_
              refine z_istore [(5, .int (iI 1)), (4, .int (iI e_67)), (3, .int (iI 109)), (0, .ref (q 0)), (1, .int (iI at0)), (2, .int (iI nn))] dX8_readsCell_156 (by decide) rfl ?_
              refine z_aload_n (j := 3) dX8_readsCell_158 rfl rfl ?_
              refine z_getf (i := 0) (ci := 8) (k := 13) (v := .ref (q 8)) dX8_readsCell_159 m_X8_readsCell_f31 in_X8_readsCell_X8 rfl (by decide) rfl (by omega) rfl rfl ?_
              refine z_aload_n (j := 3) dX8_readsCell_162 rfl rfl ?_
              refine z_getf (i := 0) (ci := 8) (k := 9) (v := .int (iI (mi 9))) dX8_readsCell_163 m_X8_readsCell_f89 in_X8_readsCell_X8 rfl (by decide) rfl (by omega) rfl rfl ?_
              refine z_iload (j := 0) dX8_readsCell_166 rfl ?_
              refine z_if_eq (tgt := 175) dX8_readsCell_168 (by decide) (by decide) (fun h => absurd h (by decide)) (fun _ => ?_)
              refine z_iconst dX8_readsCell_171 ?_
              refine z_goto (tgt := 176) dX8_readsCell_172 (by decide) ?_
              refine z_iast (i := 8) (g := ma 8) 0 (cM cI cJ cZ q (va_up mi 7 (mi 7 + 1 + 1)) (va_up (va_up (va_up (va_up ma 5 (va_up (ma 5) (mi 9).toNat 1)) 6 (va_up ((va_up ma 5 (va_up (ma 5) (mi 9).toNat 1)) 6) (mi 9).toNat e_67)) 7 (va_up ((va_up (va_up ma 5 (va_up (ma 5) (mi 9).toNat 1)) 6 (va_up ((va_up ma 5 (va_up (ma 5) (mi 9).toNat 1)) 6) (mi 9).toNat e_67)) 7) (mi 9).toNat 0)) 8 (va_up ((va_up (va_up (va_up ma 5 (va_up (ma 5) (mi 9).toNat 1)) 6 (va_up ((va_up ma 5 (va_up (ma 5) (mi 9).toNat 1)) 6) (mi 9).toNat e_67)) 7 (va_up ((va_up (va_up ma 5 (va_up (ma 5) (mi 9).toNat 1)) 6 (va_up ((va_up ma 5 (va_up (ma 5) (mi 9).toNat 1)) 6) (mi 9).toNat e_67)) 7) (mi 9).toNat 0)) 8) (mi 9).toNat 1))) dX8_readsCell_176 (by omega) rfl rfl (by omega) (by omega) (by omega) la_8 ?_
              refine z_aload_n (j := 3) dX8_readsCell_177 rfl rfl ?_
              refine z_dup dX8_readsCell_178 rfl ?_
              refine z_getf (i := 0) (ci := 8) (k := 7) (v := .int (iI (mi 7 + 1 + 1))) dX8_readsCell_179 m_X8_readsCell_f82 in_X8_readsCell_X8 rfl (by decide) rfl (by omega) rfl rfl ?_
              refine z_iload (j := 0) dX8_readsCell_182 rfl ?_
              refine z_if_eq (tgt := 191) dX8_readsCell_184 (by decide) (by decide) (fun h => absurd h (by decide)) (fun _ => ?_)
              refine z_iconst dX8_readsCell_187 ?_
              refine z_goto (tgt := 192) dX8_readsCell_188 (by decide) ?_
              refine z_iadd dX8_readsCell_192 ?_
              refine z_putf (i := 0) (ci := 8) (k := 7) (cM cI cJ cZ q (va_up (va_up mi 7 (mi 7 + 1 + 1)) 7 ((mi 7 + 1 + 1) + 1)) (va_up (va_up (va_up (va_up ma 5 (va_up (ma 5) (mi 9).toNat 1)) 6 (va_up ((va_up ma 5 (va_up (ma 5) (mi 9).toNat 1)) 6) (mi 9).toNat e_67)) 7 (va_up ((va_up (va_up ma 5 (va_up (ma 5) (mi 9).toNat 1)) 6 (va_up ((va_up ma 5 (va_up (ma 5) (mi 9).toNat 1)) 6) (mi 9).toNat e_67)) 7) (mi 9).toNat 0)) 8 (va_up ((va_up (va_up (va_up ma 5 (va_up (ma 5) (mi 9).toNat 1)) 6 (va_up ((va_up ma 5 (va_up (ma 5) (mi 9).toNat 1)) 6) (mi 9).toNat e_67)) 7 (va_up ((va_up (va_up ma 5 (va_up (ma 5) (mi 9).toNat 1)) 6 (va_up ((va_up ma 5 (va_up (ma 5) (mi 9).toNat 1)) 6) (mi 9).toNat e_67)) 7) (mi 9).toNat 0)) 8) (mi 9).toNat 1))) dX8_readsCell_193 m_X8_readsCell_f82 in_X8_readsCell_X8 rfl (by decide) rfl (by omega) rfl tyX8_ok nmX8 rfl rfl rfl (Nat.le_of_ble_eq_true rfl) lm_7 ?_
              refine z_aload_n (j := 3) dX8_readsCell_196 rfl rfl ?_
              refine z_dup dX8_readsCell_197 rfl ?_
              refine z_getf (i := 0) (ci := 8) (k := 9) (v := .int (iI (mi 9))) dX8_readsCell_198 m_X8_readsCell_f89 in_X8_readsCell_X8 rfl (by decide) rfl (by omega) rfl rfl ?_
              refine z_iconst dX8_readsCell_201 ?_
              refine z_iadd dX8_readsCell_202 ?_
              refine z_putf (i := 0) (ci := 8) (k := 9) (cM cI cJ cZ q (va_up (va_up (va_up mi 7 (mi 7 + 1 + 1)) 7 ((mi 7 + 1 + 1) + 1)) 9 ((mi 9) + 1)) (va_up (va_up (va_up (va_up ma 5 (va_up (ma 5) (mi 9).toNat 1)) 6 (va_up ((va_up ma 5 (va_up (ma 5) (mi 9).toNat 1)) 6) (mi 9).toNat e_67)) 7 (va_up ((va_up (va_up ma 5 (va_up (ma 5) (mi 9).toNat 1)) 6 (va_up ((va_up ma 5 (va_up (ma 5) (mi 9).toNat 1)) 6) (mi 9).toNat e_67)) 7) (mi 9).toNat 0)) 8 (va_up ((va_up (va_up (va_up ma 5 (va_up (ma 5) (mi 9).toNat 1)) 6 (va_up ((va_up ma 5 (va_up (ma 5) (mi 9).toNat 1)) 6) (mi 9).toNat e_67)) 7 (va_up ((va_up (va_up ma 5 (va_up (ma 5) (mi 9).toNat 1)) 6 (va_up ((va_up ma 5 (va_up (ma 5) (mi 9).toNat 1)) 6) (mi 9).toNat e_67)) 7) (mi 9).toNat 0)) 8) (mi 9).toNat 1))) dX8_readsCell_203 m_X8_readsCell_f89 in_X8_readsCell_X8 rfl (by decide) rfl (by omega) rfl tyX8_ok nmX8 rfl rfl rfl (Nat.le_of_ble_eq_true rfl) lm_9 ?_
              refine z_iconst dX8_readsCell_206 ?_
              exact z_zret dX8_readsCell_207 (Or.inr rfl) ⟨_, _, Or.inl ⟨(by
      have hx94 : mi 7 + 1 + 1 < nn ∧ G (mi 7 + 1 + 1).toNat = 94 := by
        rcases h94 with q | q
        · exact ⟨q.1, q.2.symm.trans c_148⟩
        · exact absurd (q.2.symm.trans c_148) (by decide)
      have hS : mrun σ0 G ((mi 7 + 1 + 1) + 1).toNat = .inl (5, mi 8, mi 9 + 1, va_up (ma 5) (mi 9).toNat 1, va_up (ma 6) (mi 9).toNat e_67, va_up (ma 7) (mi 9).toNat 0, va_up (ma 8) (mi 9).toNat 1) := rd_brid (by omega) hT hx94.2
      refine ⟨⟨⟨show 0 ≤ (mi 7 + 1 + 1) + 1 by omega, show (mi 7 + 1 + 1) + 1 ≤ nn by omega⟩, ⟨show 0 ≤ mi 9 + 1 by omega, show mi 9 + 1 ≤ 16 by omega⟩, h8, 5, hS, ?_⟩, show mi 7 < (mi 7 + 1 + 1) + 1 by omega, fun k a1 a2 a3 => by rw [up_n a3, up_n a1, up_n a1], fun k a1 a2 a3 a4 => by rw [up_n a4, up_n a3, up_n a2, up_n a1], MQ8_up (ma := ma) (j := (mi 9).toNat) (a := 1) (b := e_67) (c := 0) (d := 1) hq8 (by omega) (by omega) (by omega) (by omega) rfl rfl rfl rfl⟩
      exact Or.inr (Or.inr rfl)), rfl⟩, rfl⟩
          · refine z_iconst dX8_readsCell_77 ?_
            exact z_zret dX8_readsCell_78 (Or.inl rfl) ⟨_, _, Or.inr ⟨(by
      obtain ⟨g1, g2, g5⟩ := he_67.resolve_left (fun h => absurd h.2.1.2.1 (by omega))
      rw [g5]
      exact ⟨rd_mudF (by rw [up_s]; omega) hL g2, by rw [up_s]; omega, fun k a1 a2 a3 => up_n a1, fun _ _ _ _ _ => rfl, hq8⟩), rfl⟩, rfl⟩
        · refine z_iload_n (j := 0) dX8_readsCell_34 rfl rfl ?_
          refine z_bipush dX8_readsCell_35 (by decide) ?_
          refine z_icmp_eq (tgt := 42) dX8_readsCell_37 (by decide) (by omega) (by decide) (fun c_37 => ?_) (fun c_37 => ?_)
          · have hq7 : mi 7 < nn ∧ G (mi 7).toNat = 99 := by
              rcases he_3.1 with q | q
              · exact ⟨q.1, q.2.symm.trans c_37⟩
              · exact absurd (q.2.symm.trans c_37) (by decide)
            have hL := rd_let (kind := 2) (deep := 0) hM hq7.1 c_13 (by omega)
            rw [if_pos rfl] at hL
            rw [c_37]
            refine z_aload_n (j := 1) dX8_readsCell_42 rfl rfl ?_
            refine z_dup dX8_readsCell_43 rfl ?_
            refine z_getf (i := 0) (ci := 8) (k := 7) (v := .int (iI (mi 7))) dX8_readsCell_44 m_X8_readsCell_f82 in_X8_readsCell_X8 rfl (by decide) rfl (by omega) rfl rfl ?_
            refine z_iconst dX8_readsCell_47 ?_
            refine z_iadd dX8_readsCell_48 ?_
            refine z_putf (i := 0) (ci := 8) (k := 7) (cM cI cJ cZ q (va_up mi 7 ((mi 7) + 1)) ma) dX8_readsCell_49 m_X8_readsCell_f82 in_X8_readsCell_X8 rfl (by decide) rfl (by omega) rfl tyX8_ok nmX8 rfl rfl rfl (Nat.le_of_ble_eq_true rfl) lm_7 ?_
            refine z_iload_n (j := 0) dX8_readsCell_52 rfl rfl ?_
            refine z_bipush dX8_readsCell_53 (by decide) ?_
            refine z_icmp_ne (tgt := 62) dX8_readsCell_55 (by decide) (by decide) (by decide) (fun _ => ?_) (fun h => absurd h (by decide))
            refine z_aload_n (j := 1) dX8_readsCell_62 rfl rfl ?_
            refine z_iload_n (j := 2) dX8_readsCell_63 rfl rfl ?_
            refine z_iload_n (j := 3) dX8_readsCell_64 rfl rfl ?_
            refine z_bipush dX8_readsCell_65 (by decide) ?_
            refine z_callVi (i := 0) (ci := 8) (As := [.int (iI at0), .int (iI nn), .int (iI 9)]) (rest := []) (c_X8_figure  hq hSn hG (by omega) (by rw [up_s]; omega) (by omega)) dX8_readsCell_67 gX8_readsCell_X8_figure rfl cd_X8_figure ⟨Nat.le_of_ble_eq_true rfl, Nat.le_of_ble_eq_true rfl⟩ rfl rfl (by omega) rfl rfl rfl (Nat.le_of_ble_eq_true rfl) ⟨Nat.zero_le _, Nat.zero_le _⟩ (fun r_67 g_67 hp_67 => ?_)
            obtain ⟨e_67, mi_67, he_67, rfl, rfl⟩ := hp_67
            refine z_istore [(4, .int (iI e_67)), (3, .int (iI 99)), (0, .ref (q 0)), (1, .int (iI at0)), (2, .int (iI nn))] dX8_readsCell_70 (by decide) rfl ?_
            refine z_iload (j := 0) dX8_readsCell_72 rfl ?_
            refine z_if_ge (tgt := 79) dX8_readsCell_74 (by decide) (by omega) (fun c_74 => ?_) (fun c_74 => ?_)
            · obtain ⟨g1, g234, g5⟩ := he_67.resolve_right (fun h => absurd h.1 (by omega))
              have g1b : mi 7 + 1 < nn := by rw [up_s] at g1; exact g1
              have g6 : mi_67 = va_up mi 7 (mi 7 + 1 + 1) := by rw [g5, up_s, bx_uu]
              rw [g6]
              have hT := rd_mud (v := e_67) (by omega) hL g234
              obtain ⟨-, g3, g4⟩ := g234
              refine z_aload_n (j := 2) dX8_readsCell_79 rfl rfl ?_
              refine z_getf (i := 0) (ci := 8) (k := 10) (v := .ref (q 5)) dX8_readsCell_80 m_X8_readsCell_f22 in_X8_readsCell_X8 rfl (by decide) rfl (by omega) rfl rfl ?_
              refine z_aload_n (j := 2) dX8_readsCell_83 rfl rfl ?_
              refine z_getf (i := 0) (ci := 8) (k := 9) (v := .int (iI (mi 9))) dX8_readsCell_84 m_X8_readsCell_f89 in_X8_readsCell_X8 rfl (by decide) rfl (by omega) rfl rfl ?_
              refine z_iload_n (j := 1) dX8_readsCell_87 rfl rfl ?_
              refine z_bipush dX8_readsCell_88 (by decide) ?_
              refine z_icmp_ne (tgt := 97) dX8_readsCell_90 (by decide) (by decide) (by decide) (fun _ => ?_) (fun h => absurd h (by decide))
              refine z_iload_n (j := 1) dX8_readsCell_97 rfl rfl ?_
              refine z_bipush dX8_readsCell_98 (by decide) ?_
              refine z_icmp_ne (tgt := 107) dX8_readsCell_100 (by decide) (by decide) (by decide) (fun h => absurd h (by decide)) (fun _ => ?_)
              refine z_iconst dX8_readsCell_103 ?_
              refine z_goto (tgt := 108) dX8_readsCell_104 (by decide) ?_
              refine z_iast (i := 5) (g := ma 5) 0 (cM cI cJ cZ q (va_up mi 7 (mi 7 + 1 + 1)) (va_up ma 5 (va_up (ma 5) (mi 9).toNat 2))) dX8_readsCell_108 (by omega) rfl rfl (by omega) (by omega) (by omega) la_5 ?_
              refine z_aload_n (j := 2) dX8_readsCell_109 rfl rfl ?_
              refine z_getf (i := 0) (ci := 8) (k := 11) (v := .ref (q 6)) dX8_readsCell_110 m_X8_readsCell_f25 in_X8_readsCell_X8 rfl (by decide) rfl (by omega) rfl rfl ?_
              refine z_aload_n (j := 2) dX8_readsCell_113 rfl rfl ?_
              refine z_getf (i := 0) (ci := 8) (k := 9) (v := .int (iI (mi 9))) dX8_readsCell_114 m_X8_readsCell_f89 in_X8_readsCell_X8 rfl (by decide) rfl (by omega) rfl rfl ?_
              refine z_iload (j := 0) dX8_readsCell_117 rfl ?_
              refine z_iast (i := 6) (g := ma 6) 0 (cM cI cJ cZ q (va_up mi 7 (mi 7 + 1 + 1)) (va_up (va_up ma 5 (va_up (ma 5) (mi 9).toNat 2)) 6 (va_up ((va_up ma 5 (va_up (ma 5) (mi 9).toNat 2)) 6) (mi 9).toNat e_67))) dX8_readsCell_119 (by omega) rfl rfl (by omega) (by omega) (by omega) la_6 ?_
              refine z_aload_n (j := 2) dX8_readsCell_120 rfl rfl ?_
              refine z_getf (i := 0) (ci := 8) (k := 12) (v := .ref (q 7)) dX8_readsCell_121 m_X8_readsCell_f28 in_X8_readsCell_X8 rfl (by decide) rfl (by omega) rfl rfl ?_
              refine z_aload_n (j := 2) dX8_readsCell_124 rfl rfl ?_
              refine z_getf (i := 0) (ci := 8) (k := 9) (v := .int (iI (mi 9))) dX8_readsCell_125 m_X8_readsCell_f89 in_X8_readsCell_X8 rfl (by decide) rfl (by omega) rfl rfl ?_
              refine z_iload_n (j := 1) dX8_readsCell_128 rfl rfl ?_
              refine z_bipush dX8_readsCell_129 (by decide) ?_
              refine z_icmp_ne (tgt := 138) dX8_readsCell_131 (by decide) (by decide) (by decide) (fun _ => ?_) (fun h => absurd h (by decide))
              refine z_iconst dX8_readsCell_138 ?_
              refine z_iast (i := 7) (g := ma 7) 0 (cM cI cJ cZ q (va_up mi 7 (mi 7 + 1 + 1)) (va_up (va_up (va_up ma 5 (va_up (ma 5) (mi 9).toNat 2)) 6 (va_up ((va_up ma 5 (va_up (ma 5) (mi 9).toNat 2)) 6) (mi 9).toNat e_67)) 7 (va_up ((va_up (va_up ma 5 (va_up (ma 5) (mi 9).toNat 2)) 6 (va_up ((va_up ma 5 (va_up (ma 5) (mi 9).toNat 2)) 6) (mi 9).toNat e_67)) 7) (mi 9).toNat 0))) dX8_readsCell_139 (by omega) rfl rfl (by omega) (by omega) (by omega) la_7 ?_
              refine z_aload_n (j := 2) dX8_readsCell_140 rfl rfl ?_
              refine z_iload_n (j := 3) dX8_readsCell_141 rfl rfl ?_
              refine z_iload_n (j := 4) dX8_readsCell_142 rfl rfl ?_
              refine z_callVi (i := 0) (ci := 8) (As := [.int (iI at0), .int (iI nn)]) (rest := []) (c_X8_codeAt  hq hSn hG (by omega) (by rw [up_s]; omega)) dX8_readsCell_143 gX8_readsCell_X8_codeAt rfl cd_X8_codeAt ⟨Nat.le_of_ble_eq_true rfl, Nat.le_of_ble_eq_true rfl⟩ rfl rfl (by omega) rfl rfl rfl (Nat.le_of_ble_eq_true rfl) ⟨Nat.zero_le _, Nat.zero_le _⟩ (fun r_143 g_143 hp_143 => ?_)
              obtain ⟨⟨e_143, he_143, rfl⟩, rfl⟩ := hp_143
              have h94 : (mi 7 + 1 + 1 < nn ∧ e_143 = G (mi 7 + 1 + 1).toNat) ∨ (nn ≤ mi 7 + 1 + 1 ∧ e_143 = -9) := he_143.1
              have hr143 := he_143.2
              refine z_bipush dX8_readsCell_146 (by decide) ?_
              refine z_icmp_ne (tgt := 155) dX8_readsCell_148 (by decide) (by omega) (by decide) (fun c_148 => ?_) (fun c_148 => ?_)
              · refine z_iconst dX8_readsCell_155 ?_
                refine z_istore [(5, .int (iI 0)), (4, .int (iI e_67)), (3, .int (iI 99)), (0, .ref (q 0)), (1, .int (iI at0)), (2, .int (iI nn))] dX8_readsCell_156 (by decide) rfl ?_
                refine z_aload_n (j := 3) dX8_readsCell_158 rfl rfl ?_
                refine z_getf (i := 0) (ci := 8) (k := 13) (v := .ref (q 8)) dX8_readsCell_159 m_X8_readsCell_f31 in_X8_readsCell_X8 rfl (by decide) rfl (by omega) rfl rfl ?_
                refine z_aload_n (j := 3) dX8_readsCell_162 rfl rfl ?_
                refine z_getf (i := 0) (ci := 8) (k := 9) (v := .int (iI (mi 9))) dX8_readsCell_163 m_X8_readsCell_f89 in_X8_readsCell_X8 rfl (by decide) rfl (by omega) rfl rfl ?_
                refine z_iload (j := 0) dX8_readsCell_166 rfl ?_
                refine z_if_eq (tgt := 175) dX8_readsCell_168 (by decide) (by decide) (fun _ => ?_) (fun h => absurd h (by decide))
                refine z_iconst dX8_readsCell_175 ?_
                refine z_iast (i := 8) (g := ma 8) 0 (cM cI cJ cZ q (va_up mi 7 (mi 7 + 1 + 1)) (va_up (va_up (va_up (va_up ma 5 (va_up (ma 5) (mi 9).toNat 2)) 6 (va_up ((va_up ma 5 (va_up (ma 5) (mi 9).toNat 2)) 6) (mi 9).toNat e_67)) 7 (va_up ((va_up (va_up ma 5 (va_up (ma 5) (mi 9).toNat 2)) 6 (va_up ((va_up ma 5 (va_up (ma 5) (mi 9).toNat 2)) 6) (mi 9).toNat e_67)) 7) (mi 9).toNat 0)) 8 (va_up ((va_up (va_up (va_up ma 5 (va_up (ma 5) (mi 9).toNat 2)) 6 (va_up ((va_up ma 5 (va_up (ma 5) (mi 9).toNat 2)) 6) (mi 9).toNat e_67)) 7 (va_up ((va_up (va_up ma 5 (va_up (ma 5) (mi 9).toNat 2)) 6 (va_up ((va_up ma 5 (va_up (ma 5) (mi 9).toNat 2)) 6) (mi 9).toNat e_67)) 7) (mi 9).toNat 0)) 8) (mi 9).toNat 0))) dX8_readsCell_176 (by omega) rfl rfl (by omega) (by omega) (by omega) la_8 ?_
                refine z_aload_n (j := 3) dX8_readsCell_177 rfl rfl ?_
                refine z_dup dX8_readsCell_178 rfl ?_
                refine z_getf (i := 0) (ci := 8) (k := 7) (v := .int (iI (mi 7 + 1 + 1))) dX8_readsCell_179 m_X8_readsCell_f82 in_X8_readsCell_X8 rfl (by decide) rfl (by omega) rfl rfl ?_
                refine z_iload (j := 0) dX8_readsCell_182 rfl ?_
                refine z_if_eq (tgt := 191) dX8_readsCell_184 (by decide) (by decide) (fun _ => ?_) (fun h => absurd h (by decide))
                refine z_iconst dX8_readsCell_191 ?_
                refine z_iadd dX8_readsCell_192 ?_
                refine z_putf (i := 0) (ci := 8) (k := 7) (cM cI cJ cZ q (va_up (va_up mi 7 (mi 7 + 1 + 1)) 7 ((mi 7 + 1 + 1) + 0)) (va_up (va_up (va_up (va_up ma 5 (va_up (ma 5) (mi 9).toNat 2)) 6 (va_up ((va_up ma 5 (va_up (ma 5) (mi 9).toNat 2)) 6) (mi 9).toNat e_67)) 7 (va_up ((va_up (va_up ma 5 (va_up (ma 5) (mi 9).toNat 2)) 6 (va_up ((va_up ma 5 (va_up (ma 5) (mi 9).toNat 2)) 6) (mi 9).toNat e_67)) 7) (mi 9).toNat 0)) 8 (va_up ((va_up (va_up (va_up ma 5 (va_up (ma 5) (mi 9).toNat 2)) 6 (va_up ((va_up ma 5 (va_up (ma 5) (mi 9).toNat 2)) 6) (mi 9).toNat e_67)) 7 (va_up ((va_up (va_up ma 5 (va_up (ma 5) (mi 9).toNat 2)) 6 (va_up ((va_up ma 5 (va_up (ma 5) (mi 9).toNat 2)) 6) (mi 9).toNat e_67)) 7) (mi 9).toNat 0)) 8) (mi 9).toNat 0))) dX8_readsCell_193 m_X8_readsCell_f82 in_X8_readsCell_X8 rfl (by decide) rfl (by omega) rfl tyX8_ok nmX8 rfl rfl rfl (Nat.le_of_ble_eq_true rfl) lm_7 ?_
                refine z_aload_n (j := 3) dX8_readsCell_196 rfl rfl ?_
                refine z_dup dX8_readsCell_197 rfl ?_
                refine z_getf (i := 0) (ci := 8) (k := 9) (v := .int (iI (mi 9))) dX8_readsCell_198 m_X8_readsCell_f89 in_X8_readsCell_X8 rfl (by decide) rfl (by omega) rfl rfl ?_
                refine z_iconst dX8_readsCell_201 ?_
                refine z_iadd dX8_readsCell_202 ?_
                refine z_putf (i := 0) (ci := 8) (k := 9) (cM cI cJ cZ q (va_up (va_up (va_up mi 7 (mi 7 + 1 + 1)) 7 ((mi 7 + 1 + 1) + 0)) 9 ((mi 9) + 1)) (va_up (va_up (va_up (va_up ma 5 (va_up (ma 5) (mi 9).toNat 2)) 6 (va_up ((va_up ma 5 (va_up (ma 5) (mi 9).toNat 2)) 6) (mi 9).toNat e_67)) 7 (va_up ((va_up (va_up ma 5 (va_up (ma 5) (mi 9).toNat 2)) 6 (va_up ((va_up ma 5 (va_up (ma 5) (mi 9).toNat 2)) 6) (mi 9).toNat e_67)) 7) (mi 9).toNat 0)) 8 (va_up ((va_up (va_up (va_up ma 5 (va_up (ma 5) (mi 9).toNat 2)) 6 (va_up ((va_up ma 5 (va_up (ma 5) (mi 9).toNat 2)) 6) (mi 9).toNat e_67)) 7 (va_up ((va_up (va_up ma 5 (va_up (ma 5) (mi 9).toNat 2)) 6 (va_up ((va_up ma 5 (va_up (ma 5) (mi 9).toNat 2)) 6) (mi 9).toNat e_67)) 7) (mi 9).toNat 0)) 8) (mi 9).toNat 0))) dX8_readsCell_203 m_X8_readsCell_f89 in_X8_readsCell_X8 rfl (by decide) rfl (by omega) rfl tyX8_ok nmX8 rfl rfl rfl (Nat.le_of_ble_eq_true rfl) lm_9 ?_
                refine z_iconst dX8_readsCell_206 ?_
                exact z_zret dX8_readsCell_207 (Or.inr rfl) ⟨_, _, Or.inl ⟨(by
      have hS : mrun σ0 G ((mi 7 + 1 + 1) + 0).toNat = .inl (4, mi 8, mi 9 + 1, va_up (ma 5) (mi 9).toNat 2, va_up (ma 6) (mi 9).toNat e_67, va_up (ma 7) (mi 9).toNat 0, va_up (ma 8) (mi 9).toNat 0) := by rw [Int.add_zero]; exact hT
      refine ⟨⟨⟨show 0 ≤ (mi 7 + 1 + 1) + 0 by omega, show (mi 7 + 1 + 1) + 0 ≤ nn by omega⟩, ⟨show 0 ≤ mi 9 + 1 by omega, show mi 9 + 1 ≤ 16 by omega⟩, h8, 4, hS, ?_⟩, show mi 7 < (mi 7 + 1 + 1) + 0 by omega, fun k a1 a2 a3 => by rw [up_n a3, up_n a1, up_n a1], fun k a1 a2 a3 a4 => by rw [up_n a4, up_n a3, up_n a2, up_n a1], MQ8_up (ma := ma) (j := (mi 9).toNat) (a := 2) (b := e_67) (c := 0) (d := 0) hq8 (by omega) (by omega) (by omega) (by omega) rfl rfl rfl rfl⟩
      refine Or.inr (Or.inl ⟨rfl, fun q => ?_⟩)
      have q2 : (mi 7 + 1 + 1) + 0 < nn := q
      show ¬ G ((mi 7 + 1 + 1) + 0).toNat = 94
      rw [Int.add_zero]
      rcases h94 with g | g
      · exact fun w => c_148 (g.2.trans w)
      · exact absurd q2 (by omega)), rfl⟩, rfl⟩
              · refine z_iconst dX8_readsCell_151 ?_
                refine z_goto (tgt := 156) dX8_readsCell_152 (by decide) ?_
                refine z_istore [(5, .int (iI 1)), (4, .int (iI e_67)), (3, .int (iI 99)), (0, .ref (q 0)), (1, .int (iI at0)), (2, .int (iI nn))] dX8_readsCell_156 (by decide) rfl ?_
                refine z_aload_n (j := 3) dX8_readsCell_158 rfl rfl ?_
                refine z_getf (i := 0) (ci := 8) (k := 13) (v := .ref (q 8)) dX8_readsCell_159 m_X8_readsCell_f31 in_X8_readsCell_X8 rfl (by decide) rfl (by omega) rfl rfl ?_
                refine z_aload_n (j := 3) dX8_readsCell_162 rfl rfl ?_
                refine z_getf (i := 0) (ci := 8) (k := 9) (v := .int (iI (mi 9))) dX8_readsCell_163 m_X8_readsCell_f89 in_X8_readsCell_X8 rfl (by decide) rfl (by omega) rfl rfl ?_
                refine z_iload (j := 0) dX8_readsCell_166 rfl ?_
                refine z_if_eq (tgt := 175) dX8_readsCell_168 (by decide) (by decide) (fun h => absurd h (by decide)) (fun _ => ?_)
                refine z_iconst dX8_readsCell_171 ?_
                refine z_goto (tgt := 176) dX8_readsCell_172 (by decide) ?_
                refine z_iast (i := 8) (g := ma 8) 0 (cM cI cJ cZ q (va_up mi 7 (mi 7 + 1 + 1)) (va_up (va_up (va_up (va_up ma 5 (va_up (ma 5) (mi 9).toNat 2)) 6 (va_up ((va_up ma 5 (va_up (ma 5) (mi 9).toNat 2)) 6) (mi 9).toNat e_67)) 7 (va_up ((va_up (va_up ma 5 (va_up (ma 5) (mi 9).toNat 2)) 6 (va_up ((va_up ma 5 (va_up (ma 5) (mi 9).toNat 2)) 6) (mi 9).toNat e_67)) 7) (mi 9).toNat 0)) 8 (va_up ((va_up (va_up (va_up ma 5 (va_up (ma 5) (mi 9).toNat 2)) 6 (va_up ((va_up ma 5 (va_up (ma 5) (mi 9).toNat 2)) 6) (mi 9).toNat e_67)) 7 (va_up ((va_up (va_up ma 5 (va_up (ma 5) (mi 9).toNat 2)) 6 (va_up ((va_up ma 5 (va_up (ma 5) (mi 9).toNat 2)) 6) (mi 9).toNat e_67)) 7) (mi 9).toNat 0)) 8) (mi 9).toNat 1))) dX8_readsCell_176 (by omega) rfl rfl (by omega) (by omega) (by omega) la_8 ?_
                refine z_aload_n (j := 3) dX8_readsCell_177 rfl rfl ?_
                refine z_dup dX8_readsCell_178 rfl ?_
                refine z_getf (i := 0) (ci := 8) (k := 7) (v := .int (iI (mi 7 + 1 + 1))) dX8_readsCell_179 m_X8_readsCell_f82 in_X8_readsCell_X8 rfl (by decide) rfl (by omega) rfl rfl ?_
                refine z_iload (j := 0) dX8_readsCell_182 rfl ?_
                refine z_if_eq (tgt := 191) dX8_readsCell_184 (by decide) (by decide) (fun h => absurd h (by decide)) (fun _ => ?_)
                refine z_iconst dX8_readsCell_187 ?_
                refine z_goto (tgt := 192) dX8_readsCell_188 (by decide) ?_
                refine z_iadd dX8_readsCell_192 ?_
                refine z_putf (i := 0) (ci := 8) (k := 7) (cM cI cJ cZ q (va_up (va_up mi 7 (mi 7 + 1 + 1)) 7 ((mi 7 + 1 + 1) + 1)) (va_up (va_up (va_up (va_up ma 5 (va_up (ma 5) (mi 9).toNat 2)) 6 (va_up ((va_up ma 5 (va_up (ma 5) (mi 9).toNat 2)) 6) (mi 9).toNat e_67)) 7 (va_up ((va_up (va_up ma 5 (va_up (ma 5) (mi 9).toNat 2)) 6 (va_up ((va_up ma 5 (va_up (ma 5) (mi 9).toNat 2)) 6) (mi 9).toNat e_67)) 7) (mi 9).toNat 0)) 8 (va_up ((va_up (va_up (va_up ma 5 (va_up (ma 5) (mi 9).toNat 2)) 6 (va_up ((va_up ma 5 (va_up (ma 5) (mi 9).toNat 2)) 6) (mi 9).toNat e_67)) 7 (va_up ((va_up (va_up ma 5 (va_up (ma 5) (mi 9).toNat 2)) 6 (va_up ((va_up ma 5 (va_up (ma 5) (mi 9).toNat 2)) 6) (mi 9).toNat e_67)) 7) (mi 9).toNat 0)) 8) (mi 9).toNat 1))) dX8_readsCell_193 m_X8_readsCell_f82 in_X8_readsCell_X8 rfl (by decide) rfl (by omega) rfl tyX8_ok nmX8 rfl rfl rfl (Nat.le_of_ble_eq_true rfl) lm_7 ?_
                refine z_aload_n (j := 3) dX8_readsCell_196 rfl rfl ?_
                refine z_dup dX8_readsCell_197 rfl ?_
                refine z_getf (i := 0) (ci := 8) (k := 9) (v := .int (iI (mi 9))) dX8_readsCell_198 m_X8_readsCell_f89 in_X8_readsCell_X8 rfl (by decide) rfl (by omega) rfl rfl ?_
                refine z_iconst dX8_readsCell_201 ?_
                refine z_iadd dX8_readsCell_202 ?_
                refine z_putf (i := 0) (ci := 8) (k := 9) (cM cI cJ cZ q (va_up (va_up (va_up mi 7 (mi 7 + 1 + 1)) 7 ((mi 7 + 1 + 1) + 1)) 9 ((mi 9) + 1)) (va_up (va_up (va_up (va_up ma 5 (va_up (ma 5) (mi 9).toNat 2)) 6 (va_up ((va_up ma 5 (va_up (ma 5) (mi 9).toNat 2)) 6) (mi 9).toNat e_67)) 7 (va_up ((va_up (va_up ma 5 (va_up (ma 5) (mi 9).toNat 2)) 6 (va_up ((va_up ma 5 (va_up (ma 5) (mi 9).toNat 2)) 6) (mi 9).toNat e_67)) 7) (mi 9).toNat 0)) 8 (va_up ((va_up (va_up (va_up ma 5 (va_up (ma 5) (mi 9).toNat 2)) 6 (va_up ((va_up ma 5 (va_up (ma 5) (mi 9).toNat 2)) 6) (mi 9).toNat e_67)) 7 (va_up ((va_up (va_up ma 5 (va_up (ma 5) (mi 9).toNat 2)) 6 (va_up ((va_up ma 5 (va_up (ma 5) (mi 9).toNat 2)) 6) (mi 9).toNat e_67)) 7) (mi 9).toNat 0)) 8) (mi 9).toNat 1))) dX8_readsCell_203 m_X8_readsCell_f89 in_X8_readsCell_X8 rfl (by decide) rfl (by omega) rfl tyX8_ok nmX8 rfl rfl rfl (Nat.le_of_ble_eq_true rfl) lm_9 ?_
                refine z_iconst dX8_readsCell_206 ?_
                exact z_zret dX8_readsCell_207 (Or.inr rfl) ⟨_, _, Or.inl ⟨(by
      have hx94 : mi 7 + 1 + 1 < nn ∧ G (mi 7 + 1 + 1).toNat = 94 := by
        rcases h94 with q | q
        · exact ⟨q.1, q.2.symm.trans c_148⟩
        · exact absurd (q.2.symm.trans c_148) (by decide)
      have hS : mrun σ0 G ((mi 7 + 1 + 1) + 1).toNat = .inl (5, mi 8, mi 9 + 1, va_up (ma 5) (mi 9).toNat 2, va_up (ma 6) (mi 9).toNat e_67, va_up (ma 7) (mi 9).toNat 0, va_up (ma 8) (mi 9).toNat 1) := rd_brid (by omega) hT hx94.2
      refine ⟨⟨⟨show 0 ≤ (mi 7 + 1 + 1) + 1 by omega, show (mi 7 + 1 + 1) + 1 ≤ nn by omega⟩, ⟨show 0 ≤ mi 9 + 1 by omega, show mi 9 + 1 ≤ 16 by omega⟩, h8, 5, hS, ?_⟩, show mi 7 < (mi 7 + 1 + 1) + 1 by omega, fun k a1 a2 a3 => by rw [up_n a3, up_n a1, up_n a1], fun k a1 a2 a3 a4 => by rw [up_n a4, up_n a3, up_n a2, up_n a1], MQ8_up (ma := ma) (j := (mi 9).toNat) (a := 2) (b := e_67) (c := 0) (d := 1) hq8 (by omega) (by omega) (by omega) (by omega) rfl rfl rfl rfl⟩
      exact Or.inr (Or.inr rfl)), rfl⟩, rfl⟩
            · refine z_iconst dX8_readsCell_77 ?_
              exact z_zret dX8_readsCell_78 (Or.inl rfl) ⟨_, _, Or.inr ⟨(by
      obtain ⟨g1, g2, g5⟩ := he_67.resolve_left (fun h => absurd h.2.1.2.1 (by omega))
      rw [g5]
      exact ⟨rd_mudF (by rw [up_s]; omega) hL g2, by rw [up_s]; omega, fun k a1 a2 a3 => up_n a1, fun _ _ _ _ _ => rfl, hq8⟩), rfl⟩, rfl⟩
          · refine z_iconst dX8_readsCell_40 ?_
            exact z_zret dX8_readsCell_41 (Or.inl rfl) ⟨_, _, Or.inr ⟨(by
      refine ⟨rd_bad hM hl ?_, Int.le_refl _, fun _ _ _ _ => rfl, fun _ _ _ _ _ => rfl, hq8⟩
      first
        | exact Or.inl c_13
        | exact Or.inr (fun q => by rcases he_3.1 with g | g <;> omega)), rfl⟩, rfl⟩
theorem m_X8_readsRiver_f89 : Cond.fieldLink RX8 89 "PoleBehindModel" "readCells" "I" ∈ wsX8_readsRiver := List.mem_of_getElem? (i := 2) rfl
theorem in_X8_readsRiver_X8 : ∀ w ∈ wsX80, w ∈ wsX8_readsRiver := fun _ h => List.mem_cons_of_mem _ (List.mem_append_right _ h)
theorem cd_X8_readsCell : yX8_readsCell.cls = RX8 ∧ yX8_readsCell.cls ≠ "java/lang/invoke/MethodHandle" ∧ yX8_readsCell.cls ≠ "java/lang/invoke/VarHandle" ∧ (parseMethodDescriptor yX8_readsCell.desc).map (fun d => d.parameters.length) = some 2 := ⟨rfl, by decide +kernel, by decide +kernel, by decide +kernel⟩
theorem m_X8_readsRiver_f82 : Cond.fieldLink RX8 82 "PoleBehindModel" "readAt" "I" ∈ wsX8_readsRiver := List.mem_of_getElem? (i := 1) rfl
theorem m_X8_readsRiver_f96 : Cond.fieldLink RX8 96 "PoleBehindModel" "readPace" "I" ∈ wsX8_readsRiver := List.mem_of_getElem? (i := 3) rfl
set_option maxHeartbeats 400000 in
set_option maxRecDepth 100000 in
theorem c_X8_readsRiver {l : Launch} {D : va_G} {cI cJ cZ cR : ClassId} {q : Nat → Nat} {mi : Nat → Int} {ma : Nat → Nat → Int} (hq : qOk 18 q) {at0 nn : Int} {G : Nat → Int} (hSn : ∀ k : Nat, -2147483648 ≤ ma 16 k ∧ ma 16 k < 2147483648) (hG : ∀ k : Nat, (k : Int) < nn → G k = ma 16 (at0.toNat + k)) (hat : 0 ≤ at0 ∧ 0 ≤ nn ∧ at0 + nn ≤ 240) (hq8 : MQ8 ma) : Cti l D vwCl (tysC cI cJ cZ cR) 18 q yX8_readsRiver wsX8_readsRiver ({ frames := 3, cells := 0, slots := 0, locals := 75 } : Room) [.ref (q 0), .int (iI at0), .int (iI nn)] (cM cI cJ cZ q mi ma) (fun (r : Int32) (g : Nat → va_E) => ∃ (mi' : Nat → Int) (ma' : Nat → Nat → Int), ((((∃ st : Int, mend (0, 0, 0, ma 5, ma 6, ma 7, ma 8) G nn.toNat (-9) (st, mi' 8, mi' 9, ma' 5, ma' 6, ma' 7, ma' 8)) ∧ (2 ≤ mi' 9 ∧ mi' 9 ≤ 16) ∧ (0 ≤ mi' 8 ∧ mi' 8 ≤ 3) ∧ (∀ k, k ≠ 7 → k ≠ 8 → k ≠ 9 → mi' k = mi k) ∧ (∀ k, k ≠ 5 → k ≠ 6 → k ≠ 7 → k ≠ 8 → ma' k = ma k) ∧ MQ8 ma') ∧ r = iI 1) ∨ ((RdF (0, 0, 0, ma 5, ma 6, ma 7, ma 8) G nn mi' ∧ (∀ k, k ≠ 7 → k ≠ 8 → k ≠ 9 → mi' k = mi k) ∧ (∀ k, k ≠ 5 → k ≠ 6 → k ≠ 7 → k ≠ 8 → ma' k = ma k) ∧ MQ8 ma') ∧ r = iI 0)) ∧ g = (cM cI cJ cZ q mi' ma')) := by
  refine Cti.of (cc := cX8_readsRiver) (nL := 4) (own := RX8) (ret := (some .boolean)) (by decide) rfl rfl hq (Nat.le_of_ble_eq_true rfl) (fun p e s m args below meth c => ?_)
  have hj_78 : ∀ (b : Int) (yi : Nat → Int) (ya : Nat → Nat → Int), ((b = 1 ∧ RdM (0, 0, 0, ma 5, ma 6, ma 7, ma 8) G nn yi ya) ∨ (b = 0 ∧ RdF (0, 0, 0, ma 5, ma 6, ma 7, ma 8) G nn yi)) → (∀ k, k ≠ 7 → k ≠ 8 → k ≠ 9 → yi k = mi k) → (∀ k, k ≠ 5 → k ≠ 6 → k ≠ 7 → k ≠ 8 → ya k = ma k) → (MQ8 ya) → ZMi l D vwCl (tysC cI cJ cZ cR) 18 q ({ frames := 3, cells := 0, slots := 0, locals := 75 } : Room) cX8_readsRiver 4 RX8 wsX8_readsRiver (some .boolean) (fun (r : Int32) (g : Nat → va_E) => ∃ (mi' : Nat → Int) (ma' : Nat → Nat → Int), ((((∃ st : Int, mend (0, 0, 0, ma 5, ma 6, ma 7, ma 8) G nn.toNat (-9) (st, mi' 8, mi' 9, ma' 5, ma' 6, ma' 7, ma' 8)) ∧ (2 ≤ mi' 9 ∧ mi' 9 ≤ 16) ∧ (0 ≤ mi' 8 ∧ mi' 8 ≤ 3) ∧ (∀ k, k ≠ 7 → k ≠ 8 → k ≠ 9 → mi' k = mi k) ∧ (∀ k, k ≠ 5 → k ≠ 6 → k ≠ 7 → k ≠ 8 → ma' k = ma k) ∧ MQ8 ma') ∧ r = iI 1) ∨ ((RdF (0, 0, 0, ma 5, ma 6, ma 7, ma 8) G nn mi' ∧ (∀ k, k ≠ 7 → k ≠ 8 → k ≠ 9 → mi' k = mi k) ∧ (∀ k, k ≠ 5 → k ≠ 6 → k ≠ 7 → k ≠ 8 → ma' k = ma k) ∧ MQ8 ma') ∧ r = iI 0)) ∧ g = (cM cI cJ cZ q mi' ma')) p e s m args below meth c (cM cI cJ cZ q yi ya) 78 [(3, .int (iI b)), (0, .ref (q 0)), (1, .int (iI at0)), (2, .int (iI nn))] [] := by
    intro b yi ya hv hfr hfa hqy
    have hl_78 : ∀ (N_78 : Nat) (b : Int) (yi : Nat → Int) (ya : Nat → Nat → Int), (2 * (nn - yi 7) + b).toNat < N_78 → ((b = 1 ∧ RdM (0, 0, 0, ma 5, ma 6, ma 7, ma 8) G nn yi ya) ∨ (b = 0 ∧ RdF (0, 0, 0, ma 5, ma 6, ma 7, ma 8) G nn yi)) → (∀ k, k ≠ 7 → k ≠ 8 → k ≠ 9 → yi k = mi k) → (∀ k, k ≠ 5 → k ≠ 6 → k ≠ 7 → k ≠ 8 → ya k = ma k) → (MQ8 ya) → ZMi l D vwCl (tysC cI cJ cZ cR) 18 q ({ frames := 3, cells := 0, slots := 0, locals := 75 } : Room) cX8_readsRiver 4 RX8 wsX8_readsRiver (some .boolean) (fun (r : Int32) (g : Nat → va_E) => ∃ (mi' : Nat → Int) (ma' : Nat → Nat → Int), ((((∃ st : Int, mend (0, 0, 0, ma 5, ma 6, ma 7, ma 8) G nn.toNat (-9) (st, mi' 8, mi' 9, ma' 5, ma' 6, ma' 7, ma' 8)) ∧ (2 ≤ mi' 9 ∧ mi' 9 ≤ 16) ∧ (0 ≤ mi' 8 ∧ mi' 8 ≤ 3) ∧ (∀ k, k ≠ 7 → k ≠ 8 → k ≠ 9 → mi' k = mi k) ∧ (∀ k, k ≠ 5 → k ≠ 6 → k ≠ 7 → k ≠ 8 → ma' k = ma k) ∧ MQ8 ma') ∧ r = iI 1) ∨ ((RdF (0, 0, 0, ma 5, ma 6, ma 7, ma 8) G nn mi' ∧ (∀ k, k ≠ 7 → k ≠ 8 → k ≠ 9 → mi' k = mi k) ∧ (∀ k, k ≠ 5 → k ≠ 6 → k ≠ 7 → k ≠ 8 → ma' k = ma k) ∧ MQ8 ma') ∧ r = iI 0)) ∧ g = (cM cI cJ cZ q mi' ma')) p e s m args below meth c (cM cI cJ cZ q yi ya) 78 [(3, .int (iI b)), (0, .ref (q 0)), (1, .int (iI at0)), (2, .int (iI nn))] [] := by
      intro N_78
      induction N_78 with
      | zero => intro b yi ya hm; exact absurd hm (Nat.not_lt_zero _)
      | succ N_78 ih_78 =>
        intro b yi ya hm_78 hv hfr hfa hqy
        have hy7 : (0 ≤ yi 7 ∧ yi 7 ≤ nn) ∧ (b = 0 ∨ b = 1) := by
          rcases hv with h | h
          · exact ⟨h.2.1, Or.inr h.1⟩
          · exact ⟨h.2.1, Or.inl h.1⟩
        have hy9 : b = 1 → 0 ≤ yi 9 ∧ yi 9 ≤ 16 := fun q => by
          rcases hv with h | h
          · exact h.2.2.1
          · exact absurd h.1 (by omega)
        refine z_iload_n (j := 0) dX8_readsRiver_78 rfl rfl ?_
        refine z_if_eq (tgt := 108) dX8_readsRiver_79 (by decide) (by omega) (fun c_79 => ?_) (fun c_79 => ?_)
        · refine z_iload_n (j := 0) dX8_readsRiver_108 rfl rfl ?_
          exact z_zret dX8_readsRiver_109 (hy7.2.elim (fun h => Or.inl (by rw [h])) (fun h => Or.inr (by rw [h]))) ⟨yi, ya, by
      rcases hv with ⟨h1, h2⟩ | ⟨h1, h2⟩
      · obtain ⟨r7, r9, r8, st, rm, rs⟩ := h2
        refine Or.inl ⟨⟨⟨st, end_at (k := yi 7) ⟨r7.1, by omega⟩ rm ⟨?_, by show 2 ≤ yi 9; omega⟩⟩, ⟨by omega, by omega⟩, r8, hfr, hfa, hqy⟩, by rw [h1]⟩
        show st = 4 ∨ st = 5
        rcases rs with g | g | g
        · omega
        · exact Or.inl g.1
        · exact Or.inr g
      · exact Or.inr ⟨⟨h2, hfr, hfa, hqy⟩, by rw [h1]⟩, rfl⟩
        · refine z_aload_n (j := 1) dX8_readsRiver_82 rfl rfl ?_
          refine z_getf (i := 0) (ci := 8) (k := 9) (v := .int (iI (yi 9))) dX8_readsRiver_83 m_X8_readsRiver_f89 in_X8_readsRiver_X8 rfl (by decide) rfl (by omega) rfl rfl ?_
          refine z_iconst dX8_readsRiver_86 ?_
          refine z_icmp_lt (tgt := 98) dX8_readsRiver_87 (by decide) (by omega) (by decide) (fun c_87 => ?_) (fun c_87 => ?_)
          · have hMd := (hv.resolve_right (fun h => by omega)).2
            have hMr := hMd.1
            have hM9 := hMd.2.1
            refine z_aload_n (j := 1) dX8_readsRiver_98 rfl rfl ?_
            refine z_iload_n (j := 2) dX8_readsRiver_99 rfl rfl ?_
            refine z_iload_n (j := 3) dX8_readsRiver_100 rfl rfl ?_
            refine z_callVi (i := 0) (ci := 8) (As := [.int (iI at0), .int (iI nn)]) (rest := []) (c_X8_readsCell  hq (by rw [hfa 16 (by decide) (by decide) (by decide) (by decide)]; exact hSn) (by rw [hfa 16 (by decide) (by decide) (by decide) (by decide)]; exact hG) (by omega) hMd (by omega) hqy) dX8_readsRiver_101 gX8_readsRiver_X8_readsCell rfl cd_X8_readsCell ⟨Nat.le_of_ble_eq_true rfl, Nat.le_of_ble_eq_true rfl⟩ rfl rfl (by omega) rfl rfl rfl (Nat.le_of_ble_eq_true rfl) ⟨Nat.zero_le _, Nat.zero_le _⟩ (fun r_101 g_101 hp_101 => ?_)
            obtain ⟨mi_101, ma_101, ⟨h_101, rfl⟩ | ⟨h_101, rfl⟩, rfl⟩ := hp_101
            · refine z_istore_n [(3, .int (iI 1)), (0, .ref (q 0)), (1, .int (iI at0)), (2, .int (iI nn))] dX8_readsRiver_104 rfl (by decide) rfl ?_
              refine z_goto (tgt := 78) dX8_readsRiver_105 (by decide) ?_
              exact z_sub [(3, .int (iI 1)), (0, .ref (q 0)), (1, .int (iI at0)), (2, .int (iI nn))] [0, 1, 2, 3] rfl (ih_78 1 mi_101 ma_101 (by have q1 := h_101.1.1; have q2 := h_101.2.1; omega) (by first | exact Or.inl ⟨rfl, h_101.1⟩ | exact Or.inr ⟨rfl, h_101.1⟩) (fun k a1 a2 a3 => (h_101.2.2.1 k a1 a2 a3).trans (hfr k a1 a2 a3)) (fun k a1 a2 a3 a4 => (h_101.2.2.2.1 k a1 a2 a3 a4).trans (hfa k a1 a2 a3 a4)) (h_101.2.2.2.2))
            · refine z_istore_n [(3, .int (iI 0)), (0, .ref (q 0)), (1, .int (iI at0)), (2, .int (iI nn))] dX8_readsRiver_104 rfl (by decide) rfl ?_
              refine z_goto (tgt := 78) dX8_readsRiver_105 (by decide) ?_
              exact z_sub [(3, .int (iI 0)), (0, .ref (q 0)), (1, .int (iI at0)), (2, .int (iI nn))] [0, 1, 2, 3] rfl (ih_78 0 mi_101 ma_101 (by have q1 := h_101.1.1; have q2 := h_101.2.1; omega) (by first | exact Or.inl ⟨rfl, h_101.1⟩ | exact Or.inr ⟨rfl, h_101.1⟩) (fun k a1 a2 a3 => (h_101.2.2.1 k a1 a2 a3).trans (hfr k a1 a2 a3)) (fun k a1 a2 a3 a4 => (h_101.2.2.2.1 k a1 a2 a3 a4).trans (hfa k a1 a2 a3 a4)) (h_101.2.2.2.2))
          · refine z_aload_n (j := 1) dX8_readsRiver_90 rfl rfl ?_
            refine z_getf (i := 0) (ci := 8) (k := 7) (v := .int (iI (yi 7))) dX8_readsRiver_91 m_X8_readsRiver_f82 in_X8_readsRiver_X8 rfl (by decide) rfl (by omega) rfl rfl ?_
            refine z_iload_n (j := 3) dX8_readsRiver_94 rfl rfl ?_
            refine z_icmp_ge (tgt := 108) dX8_readsRiver_95 (by decide) (by omega) (by omega) (fun c_95 => ?_) (fun c_95 => ?_)
            · refine z_iload_n (j := 0) dX8_readsRiver_108 rfl rfl ?_
              exact z_zret dX8_readsRiver_109 (hy7.2.elim (fun h => Or.inl (by rw [h])) (fun h => Or.inr (by rw [h]))) ⟨yi, ya, by
      rcases hv with ⟨h1, h2⟩ | ⟨h1, h2⟩
      · obtain ⟨r7, r9, r8, st, rm, rs⟩ := h2
        refine Or.inl ⟨⟨⟨st, end_at (k := yi 7) ⟨r7.1, by omega⟩ rm ⟨?_, by show 2 ≤ yi 9; omega⟩⟩, ⟨by omega, by omega⟩, r8, hfr, hfa, hqy⟩, by rw [h1]⟩
        show st = 4 ∨ st = 5
        rcases rs with g | g | g
        · omega
        · exact Or.inl g.1
        · exact Or.inr g
      · exact Or.inr ⟨⟨h2, hfr, hfa, hqy⟩, by rw [h1]⟩, rfl⟩
            · have hMd := (hv.resolve_right (fun h => by omega)).2
              have hMr := hMd.1
              have hM9 := hMd.2.1
              refine z_aload_n (j := 1) dX8_readsRiver_98 rfl rfl ?_
              refine z_iload_n (j := 2) dX8_readsRiver_99 rfl rfl ?_
              refine z_iload_n (j := 3) dX8_readsRiver_100 rfl rfl ?_
              refine z_callVi (i := 0) (ci := 8) (As := [.int (iI at0), .int (iI nn)]) (rest := []) (c_X8_readsCell  hq (by rw [hfa 16 (by decide) (by decide) (by decide) (by decide)]; exact hSn) (by rw [hfa 16 (by decide) (by decide) (by decide) (by decide)]; exact hG) (by omega) hMd (by omega) hqy) dX8_readsRiver_101 gX8_readsRiver_X8_readsCell rfl cd_X8_readsCell ⟨Nat.le_of_ble_eq_true rfl, Nat.le_of_ble_eq_true rfl⟩ rfl rfl (by omega) rfl rfl rfl (Nat.le_of_ble_eq_true rfl) ⟨Nat.zero_le _, Nat.zero_le _⟩ (fun r_101 g_101 hp_101 => ?_)
              obtain ⟨mi_101, ma_101, ⟨h_101, rfl⟩ | ⟨h_101, rfl⟩, rfl⟩ := hp_101
              · refine z_istore_n [(3, .int (iI 1)), (0, .ref (q 0)), (1, .int (iI at0)), (2, .int (iI nn))] dX8_readsRiver_104 rfl (by decide) rfl ?_
                refine z_goto (tgt := 78) dX8_readsRiver_105 (by decide) ?_
                exact z_sub [(3, .int (iI 1)), (0, .ref (q 0)), (1, .int (iI at0)), (2, .int (iI nn))] [0, 1, 2, 3] rfl (ih_78 1 mi_101 ma_101 (by have q1 := h_101.1.1; have q2 := h_101.2.1; omega) (by first | exact Or.inl ⟨rfl, h_101.1⟩ | exact Or.inr ⟨rfl, h_101.1⟩) (fun k a1 a2 a3 => (h_101.2.2.1 k a1 a2 a3).trans (hfr k a1 a2 a3)) (fun k a1 a2 a3 a4 => (h_101.2.2.2.1 k a1 a2 a3 a4).trans (hfa k a1 a2 a3 a4)) (h_101.2.2.2.2))
              · refine z_istore_n [(3, .int (iI 0)), (0, .ref (q 0)), (1, .int (iI at0)), (2, .int (iI nn))] dX8_readsRiver_104 rfl (by decide) rfl ?_
                refine z_goto (tgt := 78) dX8_readsRiver_105 (by decide) ?_
                exact z_sub [(3, .int (iI 0)), (0, .ref (q 0)), (1, .int (iI at0)), (2, .int (iI nn))] [0, 1, 2, 3] rfl (ih_78 0 mi_101 ma_101 (by have q1 := h_101.1.1; have q2 := h_101.2.1; omega) (by first | exact Or.inl ⟨rfl, h_101.1⟩ | exact Or.inr ⟨rfl, h_101.1⟩) (fun k a1 a2 a3 => (h_101.2.2.1 k a1 a2 a3).trans (hfr k a1 a2 a3)) (fun k a1 a2 a3 a4 => (h_101.2.2.2.1 k a1 a2 a3 a4).trans (hfa k a1 a2 a3 a4)) (h_101.2.2.2.2))
    exact z_sub [(3, .int (iI b)), (0, .ref (q 0)), (1, .int (iI at0)), (2, .int (iI nn))] [0, 1, 2, 3] rfl (hl_78 _ b yi ya (Nat.lt_succ_self _) (hv) (hfr) (hfa) (hqy))
  refine z_aload_n (j := 0) dX8_readsRiver_0 rfl rfl ?_
  refine z_iconst dX8_readsRiver_1 ?_
  refine z_putf (i := 0) (ci := 8) (k := 7) (cM cI cJ cZ q (va_up mi 7 0) ma) dX8_readsRiver_2 m_X8_readsRiver_f82 in_X8_readsRiver_X8 rfl (by decide) rfl (by omega) rfl tyX8_ok nmX8 rfl rfl rfl (Nat.le_of_ble_eq_true rfl) lm_7 ?_
  refine z_aload_n (j := 0) dX8_readsRiver_5 rfl rfl ?_
  refine z_iconst dX8_readsRiver_6 ?_
  refine z_putf (i := 0) (ci := 8) (k := 9) (cM cI cJ cZ q (va_up (va_up mi 7 0) 9 0) ma) dX8_readsRiver_7 m_X8_readsRiver_f89 in_X8_readsRiver_X8 rfl (by decide) rfl (by omega) rfl tyX8_ok nmX8 rfl rfl rfl (Nat.le_of_ble_eq_true rfl) lm_9 ?_
  refine z_aload_n (j := 0) dX8_readsRiver_10 rfl rfl ?_
  refine z_iload_n (j := 1) dX8_readsRiver_11 rfl rfl ?_
  refine z_iload_n (j := 2) dX8_readsRiver_12 rfl rfl ?_
  refine z_callVi (i := 0) (ci := 8) (As := [.int (iI at0), .int (iI nn)]) (rest := []) (c_X8_codeAt  hq hSn hG (by omega) (by rw [up_n (by decide), up_s]; omega)) dX8_readsRiver_13 gX8_readsRiver_X8_codeAt rfl cd_X8_codeAt ⟨Nat.le_of_ble_eq_true rfl, Nat.le_of_ble_eq_true rfl⟩ rfl rfl (by omega) rfl rfl rfl (Nat.le_of_ble_eq_true rfl) ⟨Nat.zero_le _, Nat.zero_le _⟩ (fun r_13 g_13 hp_13 => ?_)
  obtain ⟨⟨e_13, he_13, rfl⟩, rfl⟩ := hp_13
  have h13 : (0 < nn ∧ e_13 = G 0) ∨ (nn ≤ 0 ∧ e_13 = -9) := he_13.1
  have hr13 := he_13.2
  refine z_bipush dX8_readsRiver_16 (by decide) ?_
  refine z_icmp_ne (tgt := 25) dX8_readsRiver_18 (by decide) (by omega) (by decide) (fun c_18 => ?_) (fun c_18 => ?_)
  · refine z_iconst dX8_readsRiver_25 ?_
    refine z_istore_n [(3, .int (iI 0)), (0, .ref (q 0)), (1, .int (iI at0)), (2, .int (iI nn))] dX8_readsRiver_26 rfl (by decide) rfl ?_
    refine z_aload_n (j := 1) dX8_readsRiver_27 rfl rfl ?_
    refine z_dup dX8_readsRiver_28 rfl ?_
    refine z_getf (i := 0) (ci := 8) (k := 7) (v := .int (iI 0)) dX8_readsRiver_29 m_X8_readsRiver_f82 in_X8_readsRiver_X8 rfl (by decide) rfl (by omega) rfl rfl ?_
    refine z_iload_n (j := 0) dX8_readsRiver_32 rfl rfl ?_
    refine z_if_eq (tgt := 40) dX8_readsRiver_33 (by decide) (by decide) (fun _ => ?_) (fun h => absurd h (by decide))
    refine z_iconst dX8_readsRiver_40 ?_
    refine z_iadd dX8_readsRiver_41 ?_
    refine z_putf (i := 0) (ci := 8) (k := 7) (cM cI cJ cZ q (va_up (va_up (va_up mi 7 0) 9 0) 7 (0 + 0)) ma) dX8_readsRiver_42 m_X8_readsRiver_f82 in_X8_readsRiver_X8 rfl (by decide) rfl (by omega) rfl tyX8_ok nmX8 rfl rfl rfl (Nat.le_of_ble_eq_true rfl) lm_7 ?_
    refine z_aload_n (j := 1) dX8_readsRiver_45 rfl rfl ?_
    refine z_iload_n (j := 0) dX8_readsRiver_46 rfl rfl ?_
    refine z_if_eq (tgt := 60) dX8_readsRiver_47 (by decide) (by decide) (fun _ => ?_) (fun h => absurd h (by decide))
    refine z_bipush dX8_readsRiver_60 (by decide) ?_
    refine z_putf (i := 0) (ci := 8) (k := 8) (cM cI cJ cZ q (va_up (va_up (va_up (va_up mi 7 0) 9 0) 7 (0 + 0)) 8 (-9)) ma) dX8_readsRiver_62 m_X8_readsRiver_f96 in_X8_readsRiver_X8 rfl (by decide) rfl (by omega) rfl tyX8_ok nmX8 rfl rfl rfl (Nat.le_of_ble_eq_true rfl) lm_8 ?_
    refine z_aload_n (j := 1) dX8_readsRiver_65 rfl rfl ?_
    refine z_getf (i := 0) (ci := 8) (k := 8) (v := .int (iI (-9))) dX8_readsRiver_66 m_X8_readsRiver_f96 in_X8_readsRiver_X8 rfl (by decide) rfl (by omega) rfl rfl ?_
    refine z_if_lt (tgt := 76) dX8_readsRiver_69 (by decide) (by decide) (fun _ => ?_) (fun h => absurd h (by decide))
    have hY : RdF (0, 0, 0, ma 5, ma 6, ma 7, ma 8) G nn (va_up (va_up (va_up (va_up mi 7 0) 9 0) 7 (0 + 0)) 8 (-9)) := rd_pF rfl hat.2.1 (fun q => by rcases h13 with g | g <;> omega)
    have hYf : ∀ k, k ≠ 7 → k ≠ 8 → k ≠ 9 → (va_up (va_up (va_up (va_up mi 7 0) 9 0) 7 (0 + 0)) 8 (-9)) k = mi k := fun k a1 a2 a3 => by rw [up_n a2, up_n a1, up_n a3, up_n a1]
    refine z_iconst dX8_readsRiver_76 ?_
    refine z_istore_n [(3, .int (iI 0)), (0, .ref (q 0)), (1, .int (iI at0)), (2, .int (iI nn))] dX8_readsRiver_77 rfl (by decide) rfl ?_
    exact z_sub [(3, .int (iI 0)), (0, .ref (q 0)), (1, .int (iI at0)), (2, .int (iI nn))] [0, 1, 2, 3] rfl (hj_78 0 (va_up (va_up (va_up (va_up mi 7 0) 9 0) 7 (0 + 0)) 8 (-9)) ma (Or.inr ⟨rfl, hY⟩) hYf (fun _ _ _ _ _ => rfl) hq8)
  · have hq0 : 0 < nn ∧ G 0 = 112 := by
      rcases h13 with q | q
      · exact ⟨q.1, q.2.symm.trans c_18⟩
      · exact absurd (q.2.symm.trans c_18) (by decide)
    have hp1 := rd_p (K := ma 5) (M := ma 6) (D := ma 7) (B := ma 8) hq0.2
    refine z_iconst dX8_readsRiver_21 ?_
    refine z_goto (tgt := 26) dX8_readsRiver_22 (by decide) ?_
    refine z_istore_n [(3, .int (iI 1)), (0, .ref (q 0)), (1, .int (iI at0)), (2, .int (iI nn))] dX8_readsRiver_26 rfl (by decide) rfl ?_
    refine z_aload_n (j := 1) dX8_readsRiver_27 rfl rfl ?_
    refine z_dup dX8_readsRiver_28 rfl ?_
    refine z_getf (i := 0) (ci := 8) (k := 7) (v := .int (iI 0)) dX8_readsRiver_29 m_X8_readsRiver_f82 in_X8_readsRiver_X8 rfl (by decide) rfl (by omega) rfl rfl ?_
    refine z_iload_n (j := 0) dX8_readsRiver_32 rfl rfl ?_
    refine z_if_eq (tgt := 40) dX8_readsRiver_33 (by decide) (by decide) (fun h => absurd h (by decide)) (fun _ => ?_)
    refine z_iconst dX8_readsRiver_36 ?_
    refine z_goto (tgt := 41) dX8_readsRiver_37 (by decide) ?_
    refine z_iadd dX8_readsRiver_41 ?_
    refine z_putf (i := 0) (ci := 8) (k := 7) (cM cI cJ cZ q (va_up (va_up (va_up mi 7 0) 9 0) 7 (0 + 1)) ma) dX8_readsRiver_42 m_X8_readsRiver_f82 in_X8_readsRiver_X8 rfl (by decide) rfl (by omega) rfl tyX8_ok nmX8 rfl rfl rfl (Nat.le_of_ble_eq_true rfl) lm_7 ?_
    refine z_aload_n (j := 1) dX8_readsRiver_45 rfl rfl ?_
    refine z_iload_n (j := 0) dX8_readsRiver_46 rfl rfl ?_
    refine z_if_eq (tgt := 60) dX8_readsRiver_47 (by decide) (by decide) (fun h => absurd h (by decide)) (fun _ => ?_)
    refine z_aload_n (j := 1) dX8_readsRiver_50 rfl rfl ?_
    refine z_iload_n (j := 2) dX8_readsRiver_51 rfl rfl ?_
    refine z_iload_n (j := 3) dX8_readsRiver_52 rfl rfl ?_
    refine z_iconst dX8_readsRiver_53 ?_
    refine z_callVi (i := 0) (ci := 8) (As := [.int (iI at0), .int (iI nn), .int (iI 3)]) (rest := [.ref (q 0)]) (c_X8_figure  hq hSn hG (by omega) (by rw [up_s]; rcases h13 with g | g <;> omega) (by omega)) dX8_readsRiver_54 gX8_readsRiver_X8_figure rfl cd_X8_figure ⟨Nat.le_of_ble_eq_true rfl, Nat.le_of_ble_eq_true rfl⟩ rfl rfl (by omega) rfl rfl rfl (Nat.le_of_ble_eq_true rfl) ⟨Nat.zero_le _, Nat.zero_le _⟩ (fun r_54 g_54 hp_54 => ?_)
    obtain ⟨e_54, mi_54, he_54, rfl, rfl⟩ := hp_54
    refine z_goto (tgt := 62) dX8_readsRiver_57 (by decide) ?_
    refine z_putf (i := 0) (ci := 8) (k := 8) (cM cI cJ cZ q (va_up mi_54 8 e_54) ma) dX8_readsRiver_62 m_X8_readsRiver_f96 in_X8_readsRiver_X8 rfl (by decide) rfl (by omega) rfl tyX8_ok nmX8 rfl rfl rfl (Nat.le_of_ble_eq_true rfl) lm_8 ?_
    refine z_aload_n (j := 1) dX8_readsRiver_65 rfl rfl ?_
    refine z_getf (i := 0) (ci := 8) (k := 8) (v := .int (iI e_54)) dX8_readsRiver_66 m_X8_readsRiver_f96 in_X8_readsRiver_X8 rfl (by decide) rfl (by omega) rfl rfl ?_
    refine z_if_lt (tgt := 76) dX8_readsRiver_69 (by decide) (by omega) (fun c_69 => ?_) (fun c_69 => ?_)
    · obtain ⟨g1, g2, g5⟩ := he_54.resolve_left (fun h => absurd h.2.1.2.1 (by omega))
      have hY : RdF (0, 0, 0, ma 5, ma 6, ma 7, ma 8) G nn (va_up mi_54 8 e_54) := rd_paceF (by rw [up_n (by decide), g5]; rfl) (by omega) hp1 g2
      have hYf : ∀ k, k ≠ 7 → k ≠ 8 → k ≠ 9 → (va_up mi_54 8 e_54) k = mi k := fun k a1 a2 a3 => by rw [up_n a2, g5, up_n a1, up_n a3, up_n a1]
      refine z_iconst dX8_readsRiver_76 ?_
      refine z_istore_n [(3, .int (iI 0)), (0, .ref (q 0)), (1, .int (iI at0)), (2, .int (iI nn))] dX8_readsRiver_77 rfl (by decide) rfl ?_
      exact z_sub [(3, .int (iI 0)), (0, .ref (q 0)), (1, .int (iI at0)), (2, .int (iI nn))] [0, 1, 2, 3] rfl (hj_78 0 (va_up mi_54 8 e_54) ma (Or.inr ⟨rfl, hY⟩) hYf (fun _ _ _ _ _ => rfl) hq8)
    · obtain ⟨g1, g234, g5⟩ := he_54.resolve_right (fun h => absurd h.1 (by omega))
      have g1b : 0 + 1 < nn := g1
      have hYf : ∀ k, k ≠ 7 → k ≠ 8 → k ≠ 9 → (va_up mi_54 8 e_54) k = mi k := fun k a1 a2 a3 => by rw [up_n a2, g5, up_n a1, up_n a1, up_n a3, up_n a1]
      have hY7 : (va_up mi_54 8 e_54) 7 = 2 := by rw [up_n (by decide), g5]; rfl
      have hY9 : (va_up mi_54 8 e_54) 9 = 0 := by rw [up_n (by decide), g5]; rfl
      have hY8 : (va_up mi_54 8 e_54) 8 = e_54 := up_s
      have hY : RdM (0, 0, 0, ma 5, ma 6, ma 7, ma 8) G nn (va_up mi_54 8 e_54) ma := by
        refine ⟨by rw [hY7]; omega, by rw [hY9]; omega, by rw [hY8]; exact g234.2, 2, ?_, Or.inl ⟨rfl, hY9⟩⟩
        rw [hY7, hY8, hY9]
        exact rd_pace hp1 g234
      refine z_iconst dX8_readsRiver_72 ?_
      refine z_goto (tgt := 77) dX8_readsRiver_73 (by decide) ?_
      refine z_istore_n [(3, .int (iI 1)), (0, .ref (q 0)), (1, .int (iI at0)), (2, .int (iI nn))] dX8_readsRiver_77 rfl (by decide) rfl ?_
      exact z_sub [(3, .int (iI 1)), (0, .ref (q 0)), (1, .int (iI at0)), (2, .int (iI nn))] [0, 1, 2, 3] rfl (hj_78 1 (va_up mi_54 8 e_54) ma (Or.inl ⟨rfl, hY⟩) hYf (fun _ _ _ _ _ => rfl) hq8)
