theorem m_X8_bestBy_C65 : Cond.constantLong RX8 65 (lI (10)) ∈ wsX8_bestBy := List.mem_of_getElem? (i := 1) (by decide +kernel)
theorem m_X8_bestBy_f34 : Cond.fieldLink RX8 34 "PoleBehindModel" "bestFrom" "[J" ∈ wsX8_bestBy := List.mem_of_getElem? (i := 2) rfl
theorem in_X8_bestBy_X8 : ∀ w ∈ wsX80, w ∈ wsX8_bestBy := fun _ h => List.mem_cons_of_mem _ (List.mem_append_right _ h)
theorem cd_X8_placeOf : yX8_placeOf.cls ≠ "java/lang/invoke/MethodHandle" ∧ yX8_placeOf.cls ≠ "java/lang/invoke/VarHandle" ∧ (parseMethodDescriptor yX8_placeOf.desc).map (fun d => d.parameters.length) = some 3 := ⟨by decide +kernel, by decide +kernel, by decide +kernel⟩
set_option maxHeartbeats 400000 in
set_option maxRecDepth 100000 in
theorem c_X8_bestBy {l : Launch} {D : va_G} {cI cJ cZ cR : ClassId} {q : Nat → Nat} {mi : Nat → Int} {ma : Nat → Nat → Int} (hq : qOk 18 q) {act lf x t : Int} (hR : MRv mi ma) (h1 : 1 ≤ mi 1) (ha : 0 ≤ act ∧ act ≤ 3) (hlf : 1 ≤ lf ∧ lf ≤ 12) (hx : 0 ≤ x ∧ x < mi 1) (ht : 0 ≤ t ∧ t ≤ 3) (hT : ∀ s : Nat, (s : Int) < 4 * mi 1 → ma 9 (64 * (lf.toNat - 1) + s) = bestF (rvM mi ma) (lf.toNat - 1) (s : Int)) : Ctl l D vwCl (tysC cI cJ cZ cR) 18 q yX8_bestBy wsX8_bestBy ({ frames := 2, cells := 0, slots := 0, locals := 48 } : Room) [.ref (q 0), .int (iI act), .int (iI lf), .int (iI x), .int (iI t)] (cM cI cJ cZ q mi ma) (fun (r : Int64) (g : Nat → va_E) => (∃ e : Int, (e = byA (rvM mi ma) (bestF (rvM mi ma) (lf.toNat - 1)) act (4 * x + t)) ∧ r = lI e) ∧ g = (cM cI cJ cZ q mi ma)) := by
  refine Ctl.of (cc := cX8_bestBy) (nL := 6) (own := RX8) (ret := (some .long)) (by decide) rfl rfl hq (Nat.le_of_ble_eq_true rfl) (fun p e s m args below meth c => ?_)
  obtain ⟨hN, hP, hK, hM, hD, hB⟩ := id hR
  have hRM := MRv_M hR
  have hnn : rN (rvM mi ma) = mi 1 := rfl
  have hpr := pacA_rng act t ht
  have hcr := celA_rng (R := (rvM mi ma)) (act := act) hx.1 ht (by rw [hnn]; omega)
  rw [hnn] at hcr
  have hdr := dten_rng (act := act) (hold_rng (hRM.2 x.toNat))
  refine z_aload_n (j := 0) dX8_bestBy_0 rfl rfl ?_
  refine z_iload_n (j := 1) dX8_bestBy_1 rfl rfl ?_
  refine z_iload_n (j := 3) dX8_bestBy_2 rfl rfl ?_
  refine z_iload (j := 4) dX8_bestBy_3 rfl ?_
  refine z_callVi (i := 0) (ci := 8) (As := [.int (iI act), .int (iI x), .int (iI t)]) (rest := []) (c_X8_canAct  hq hR (by omega) (by omega) (by omega)) dX8_bestBy_5 gX8_bestBy_X8_canAct rfl cd_X8_canAct ⟨Nat.le_of_ble_eq_true rfl, Nat.le_of_ble_eq_true rfl⟩ rfl rfl (by omega) rfl rfl rfl (Nat.le_of_ble_eq_true rfl) ⟨Nat.zero_le _, Nat.zero_le _⟩ (fun r_5 g_5 hp_5 => ?_)
  obtain ⟨⟨h_5, rfl⟩ | ⟨h_5, rfl⟩, rfl⟩ := hp_5
  · refine z_if_ne (tgt := 13) dX8_bestBy_8 (by decide) (by decide) (fun _ => ?_) (fun h => absurd h (by decide))
    refine z_iload_n (j := 1) dX8_bestBy_13 rfl rfl ?_
    refine z_iload (j := 4) dX8_bestBy_14 rfl ?_
    refine z_callSi (As := [.int (iI act), .int (iI t)]) (rest := []) (c_X8_paceBy  hq (by omega) (by omega)) dX8_bestBy_16 gX8_bestBy_X8_paceBy rfl cd_X8_paceBy ⟨Nat.le_of_ble_eq_true rfl, Nat.le_of_ble_eq_true rfl⟩ rfl rfl rfl (Nat.le_of_ble_eq_true rfl) ⟨Nat.zero_le _, Nat.zero_le _⟩ (fun r_16 g_16 hp_16 => ?_)
    obtain ⟨⟨e_16, he_16, rfl⟩, rfl⟩ := hp_16
    have h16 : e_16 = pacA act t := he_16
    rw [← h16] at hpr hcr
    refine z_istore [(5, .int (iI e_16)), (0, .ref (q 0)), (1, .int (iI act)), (2, .int (iI lf)), (3, .int (iI x)), (4, .int (iI t))] dX8_bestBy_19 (by decide) rfl ?_
    refine z_ldc2 dX8_bestBy_21 m_X8_bestBy_C65 ?_
    refine z_aload_n (j := 1) dX8_bestBy_24 rfl rfl ?_
    refine z_iload_n (j := 2) dX8_bestBy_25 rfl rfl ?_
    refine z_iload_n (j := 4) dX8_bestBy_26 rfl rfl ?_
    refine z_callVi (i := 0) (ci := 8) (As := [.int (iI act), .int (iI x)]) (rest := [.long (lI 10)]) (c_X8_staysBy  hq hR (by omega) (by omega)) dX8_bestBy_27 gX8_bestBy_X8_staysBy rfl cd_X8_staysBy ⟨Nat.le_of_ble_eq_true rfl, Nat.le_of_ble_eq_true rfl⟩ rfl rfl (by omega) rfl rfl rfl (Nat.le_of_ble_eq_true rfl) ⟨Nat.zero_le _, Nat.zero_le _⟩ (fun r_27 g_27 hp_27 => ?_)
    obtain ⟨⟨e_27, he_27, rfl⟩, rfl⟩ := hp_27
    refine z_i2l dX8_bestBy_30 (by omega) ?_
    refine z_lsub dX8_bestBy_31 ?_
    refine z_aload_n (j := 1) dX8_bestBy_32 rfl rfl ?_
    refine z_getf (i := 0) (ci := 8) (k := 19) (v := .ref (q 9)) dX8_bestBy_33 m_X8_bestBy_f34 in_X8_bestBy_X8 rfl (by decide) rfl (by omega) rfl rfl ?_
    refine z_iload_n (j := 3) dX8_bestBy_36 rfl rfl ?_
    refine z_iconst dX8_bestBy_37 ?_
    refine z_isub dX8_bestBy_38 ?_
    refine z_aload_n (j := 1) dX8_bestBy_39 rfl rfl ?_
    refine z_iload_n (j := 4) dX8_bestBy_40 rfl rfl ?_
    refine z_iload (j := 0) dX8_bestBy_41 rfl ?_
    refine z_callVi (i := 0) (ci := 8) (As := [.int (iI x), .int (iI e_16)]) (rest := [.int (iI (lf - 1)), .ref (q 9), .long (lI (10 - e_27))]) (c_X8_cellBy  hq hR (by omega) (by omega)) dX8_bestBy_43 gX8_bestBy_X8_cellBy rfl cd_X8_cellBy ⟨Nat.le_of_ble_eq_true rfl, Nat.le_of_ble_eq_true rfl⟩ rfl rfl (by omega) rfl rfl rfl (Nat.le_of_ble_eq_true rfl) ⟨Nat.zero_le _, Nat.zero_le _⟩ (fun r_43 g_43 hp_43 => ?_)
    obtain ⟨⟨e_43, he_43, rfl⟩, rfl⟩ := hp_43
    have h43 : e_43 = celA (mi 1) x e_16 := he_43
    rw [← h43] at hcr
    refine z_iload (j := 0) dX8_bestBy_46 rfl ?_
    refine z_callSi (As := [.int (iI (lf - 1)), .int (iI e_43), .int (iI e_16)]) (rest := [.ref (q 9), .long (lI (10 - e_27))]) (c_X8_placeOf  hq ) dX8_bestBy_48 gX8_bestBy_X8_placeOf rfl cd_X8_placeOf ⟨Nat.le_of_ble_eq_true rfl, Nat.le_of_ble_eq_true rfl⟩ rfl rfl rfl (Nat.le_of_ble_eq_true rfl) ⟨Nat.zero_le _, Nat.zero_le _⟩ (fun r_48 g_48 hp_48 => ?_)
    obtain ⟨⟨_, rfl, rfl⟩, rfl⟩ := hp_48
    refine z_lald (i := 9) (g := ma 9) 1 dX8_bestBy_51 (by omega) rfl rfl (by omega) (by omega) (by omega) ?_
    refine z_lmul dX8_bestBy_52 ?_
    exact z_lret dX8_bestBy_53 ⟨⟨_, (by
      rw [byA_yes hx.1 ht (by rw [hnn]; omega) h_5, hnn, ← h16, ← h43, show dten act (hold (rvM mi ma) x.toNat) = 10 - e_27 by omega]
      have g := hT (4 * e_43 + e_16).toNat (by omega)
      rw [show 64 * (lf.toNat - 1) + (4 * e_43 + e_16).toNat = (64 * (lf - 1) + 4 * e_43 + e_16).toNat by omega, castN (by omega)] at g
      rw [g]), rfl⟩, rfl⟩
  · refine z_if_ne (tgt := 13) dX8_bestBy_8 (by decide) (by decide) (fun h => absurd h (by decide)) (fun _ => ?_)
    refine z_lconst (z := 0) dX8_bestBy_11 (by decide) ?_
    exact z_lret dX8_bestBy_12 ⟨⟨_, (byA_no hx.1 ht h_5).symm, rfl⟩, rfl⟩
theorem m_X8_layBest_f75 : Cond.fieldLink RX8 75 "PoleBehindModel" "cells" "I" ∈ wsX8_layBest := List.mem_of_getElem? (i := 2) rfl
theorem in_X8_layBest_X8 : ∀ w ∈ wsX80, w ∈ wsX8_layBest := fun _ h => List.mem_cons_of_mem _ (List.mem_append_right _ h)
theorem m_X8_layBest_f34 : Cond.fieldLink RX8 34 "PoleBehindModel" "bestFrom" "[J" ∈ wsX8_layBest := List.mem_of_getElem? (i := 1) rfl
theorem cd_X8_bestBy : yX8_bestBy.cls = RX8 ∧ yX8_bestBy.cls ≠ "java/lang/invoke/MethodHandle" ∧ yX8_bestBy.cls ≠ "java/lang/invoke/VarHandle" ∧ (parseMethodDescriptor yX8_bestBy.desc).map (fun d => d.parameters.length) = some 4 := ⟨rfl, by decide +kernel, by decide +kernel, by decide +kernel⟩
set_option maxHeartbeats 400000 in
set_option maxRecDepth 100000 in
theorem c_X8_layBest {l : Launch} {D : va_G} {cI cJ cZ cR : ClassId} {q : Nat → Nat} {mi : Nat → Int} {ma : Nat → Nat → Int} (hq : qOk 18 q)  (hR : MRv mi ma) (h1 : 1 ≤ mi 1) : Ctv l D vwCl (tysC cI cJ cZ cR) 18 q yX8_layBest wsX8_layBest ({ frames := 3, cells := 0, slots := 0, locals := 73 } : Room) [.ref (q 0)] (cM cI cJ cZ q mi ma) (fun (g : Nat → va_E) => ∃ (ma' : Nat → Nat → Int), (TabOk (rvM mi ma) (ma' 9) 12 ∧ ∀ k, k ≠ 9 → ma' k = ma k) ∧ g = (cM cI cJ cZ q mi ma')) := by
  refine Ctv.of (cc := cX8_layBest) (nL := 9) (own := RX8) (ret := none) (by decide) rfl rfl hq (Nat.le_of_ble_eq_true rfl) (fun p e s m args below meth c => ?_)
  obtain ⟨hN, hP, hK, hM, hD, hB⟩ := id hR
  have hRM := MRv_M hR
  have hnn : rN (rvM mi ma) = mi 1 := rfl
  refine z_iconst dX8_layBest_0 ?_
  refine z_istore_n [(1, .int (iI 0)), (0, .ref (q 0))] dX8_layBest_1 rfl (by decide) rfl ?_
  have hl_2 : ∀ (N_2 : Nat) (u : Int) (ya : Nat → Nat → Int), (833 - u).toNat < N_2 → (0 ≤ u ∧ u ≤ 832) → (∀ k, k ≠ 9 → ya k = ma k) → (∀ k : Nat, (k : Int) < u → ya 9 k = 0) → ZMv l D vwCl (tysC cI cJ cZ cR) 18 q ({ frames := 3, cells := 0, slots := 0, locals := 73 } : Room) cX8_layBest 9 RX8 wsX8_layBest none (fun (g : Nat → va_E) => ∃ (ma' : Nat → Nat → Int), (TabOk (rvM mi ma) (ma' 9) 12 ∧ ∀ k, k ≠ 9 → ma' k = ma k) ∧ g = (cM cI cJ cZ q mi ma')) p e s m args below meth c (cM cI cJ cZ q mi ya) 2 [(1, .int (iI u)), (0, .ref (q 0))] [] := by
    intro N_2
    induction N_2 with
    | zero => intro u ya hm; exact absurd hm (Nat.not_lt_zero _)
    | succ N_2 ih_2 =>
      intro u ya hm_2 hu hya h0
      refine z_iload_n (j := 0) dX8_layBest_2 rfl rfl ?_
      refine z_sipush dX8_layBest_3 (by decide) ?_
      refine z_icmp_ge (tgt := 22) dX8_layBest_6 (by decide) (by omega) (by decide) (fun c_6 => ?_) (fun c_6 => ?_)
      · refine z_iconst dX8_layBest_22 ?_
        refine z_istore_n [(1, .int (iI 0)), (0, .ref (q 0))] dX8_layBest_23 rfl (by decide) rfl ?_
        have hl_24 : ∀ (N_24 : Nat) (pw : Int) (ya : Nat → Nat → Int), (5 - pw).toNat < N_24 → (0 ≤ pw ∧ pw ≤ 4) → (∀ k, k ≠ 9 → ya k = ma k) → (∀ k : Nat, k < 832 → ya 9 k = if 4 * (mi 1 - 1) ≤ (k : Int) ∧ (k : Int) < 4 * (mi 1 - 1) + pw then 1 else 0) → ZMv l D vwCl (tysC cI cJ cZ cR) 18 q ({ frames := 3, cells := 0, slots := 0, locals := 73 } : Room) cX8_layBest 9 RX8 wsX8_layBest none (fun (g : Nat → va_E) => ∃ (ma' : Nat → Nat → Int), (TabOk (rvM mi ma) (ma' 9) 12 ∧ ∀ k, k ≠ 9 → ma' k = ma k) ∧ g = (cM cI cJ cZ q mi ma')) p e s m args below meth c (cM cI cJ cZ q mi ya) 24 [(1, .int (iI pw)), (0, .ref (q 0))] [] := by
          intro N_24
          induction N_24 with
          | zero => intro pw ya hm; exact absurd hm (Nat.not_lt_zero _)
          | succ N_24 ih_24 =>
            intro pw ya hm_24 hpw hya h0
            refine z_iload_n (j := 0) dX8_layBest_24 rfl rfl ?_
            refine z_iconst dX8_layBest_25 ?_
            refine z_icmp_ge (tgt := 52) dX8_layBest_26 (by decide) (by omega) (by decide) (fun c_26 => ?_) (fun c_26 => ?_)
            · refine z_iconst dX8_layBest_52 ?_
              refine z_istore_n [(1, .int (iI 1)), (0, .ref (q 0))] dX8_layBest_53 rfl (by decide) rfl ?_
              have hl_54 : ∀ (N_54 : Nat) (u : Int) (ya : Nat → Nat → Int), (14 - u).toNat < N_54 → (1 ≤ u ∧ u ≤ 13) → (∀ k, k ≠ 9 → ya k = ma k) → (TabOk (rvM mi ma) (ya 9) (u.toNat - 1)) → (∀ k : Nat, 64 * u ≤ (k : Int) → k < 832 → ya 9 k = 0) → ZMv l D vwCl (tysC cI cJ cZ cR) 18 q ({ frames := 3, cells := 0, slots := 0, locals := 73 } : Room) cX8_layBest 9 RX8 wsX8_layBest none (fun (g : Nat → va_E) => ∃ (ma' : Nat → Nat → Int), (TabOk (rvM mi ma) (ma' 9) 12 ∧ ∀ k, k ≠ 9 → ma' k = ma k) ∧ g = (cM cI cJ cZ q mi ma')) p e s m args below meth c (cM cI cJ cZ q mi ya) 54 [(1, .int (iI u)), (0, .ref (q 0))] [] := by
                intro N_54
                induction N_54 with
                | zero => intro u ya hm; exact absurd hm (Nat.not_lt_zero _)
                | succ N_54 ih_54 =>
                  intro u ya hm_54 hu hya hT h0
                  refine z_iload_n (j := 0) dX8_layBest_54 rfl rfl ?_
                  refine z_bipush dX8_layBest_55 (by decide) ?_
                  refine z_icmp_gt (tgt := 156) dX8_layBest_57 (by decide) (by omega) (by decide) (fun c_57 => ?_) (fun c_57 => ?_)
                  · exact z_vret dX8_layBest_156 ⟨_, (by exact ⟨by rw [show (12 : Nat) = u.toNat - 1 by omega]; exact hT, hya⟩), rfl⟩
                  · refine z_iconst dX8_layBest_60 ?_
                    refine z_istore_n [(2, .int (iI 0)), (1, .int (iI u)), (0, .ref (q 0))] dX8_layBest_61 rfl (by decide) rfl ?_
                    have hl_62 : ∀ (N_62 : Nat) (v : Int) (za : Nat → Nat → Int), (20 - v).toNat < N_62 → (0 ≤ v ∧ v ≤ mi 1 - 1) → (∀ k, k ≠ 9 → za k = ma k) → (TabOk (rvM mi ma) (za 9) (u.toNat - 1)) → (∀ s : Nat, (s : Int) < 4 * v → za 9 (64 * u.toNat + s) = bestF (rvM mi ma) u.toNat (s : Int)) → (∀ k : Nat, 64 * u + 4 * v ≤ (k : Int) → k < 832 → za 9 k = 0) → ZMv l D vwCl (tysC cI cJ cZ cR) 18 q ({ frames := 3, cells := 0, slots := 0, locals := 73 } : Room) cX8_layBest 9 RX8 wsX8_layBest none (fun (g : Nat → va_E) => ∃ (ma' : Nat → Nat → Int), (TabOk (rvM mi ma) (ma' 9) 12 ∧ ∀ k, k ≠ 9 → ma' k = ma k) ∧ g = (cM cI cJ cZ q mi ma')) p e s m args below meth c (cM cI cJ cZ q mi za) 62 [(2, .int (iI v)), (1, .int (iI u)), (0, .ref (q 0))] [] := by
                      intro N_62
                      induction N_62 with
                      | zero => intro v za hm; exact absurd hm (Nat.not_lt_zero _)
                      | succ N_62 ih_62 =>
                        intro v za hm_62 hv hza hzT hzn hz0
                        refine z_iload_n (j := 0) dX8_layBest_62 rfl rfl ?_
                        refine z_aload_n (j := 2) dX8_layBest_63 rfl rfl ?_
                        refine z_getf (i := 0) (ci := 8) (k := 1) (v := .int (iI (mi 1))) dX8_layBest_64 m_X8_layBest_f75 in_X8_layBest_X8 rfl (by decide) rfl (by omega) rfl rfl ?_
                        refine z_iconst dX8_layBest_67 ?_
                        refine z_isub dX8_layBest_68 ?_
                        refine z_icmp_ge (tgt := 150) dX8_layBest_69 (by decide) (by omega) (by omega) (fun c_69 => ?_) (fun c_69 => ?_)
                        · refine z_iinc (j := 1) [(1, .int (iI (u + 1))), (2, .int (iI v)), (0, .ref (q 0))] dX8_layBest_150 rfl (by decide) rfl ?_
                          refine z_goto (tgt := 54) dX8_layBest_153 (by decide) ?_
                          exact z_sub [(1, .int (iI (u + 1))), (0, .ref (q 0))] [0, 2] rfl (ih_54 (u + 1) za (by omega) (by omega) (hza) (fun t s ht hs => by
            by_cases hk : t = u.toNat
            · rw [hk]
              by_cases hs2 : (s : Int) < 4 * v
              · exact hzn s hs2
              · rw [hz0 _ (by omega) (by omega), bestF_tea (by omega) (by rw [hnn]; omega)]
            · exact hzT t s (by omega) hs) (fun k hk h8 => hz0 k (by omega) h8))
                        · refine z_iconst dX8_layBest_72 ?_
                          refine z_istore_n [(3, .int (iI 0)), (2, .int (iI v)), (1, .int (iI u)), (0, .ref (q 0))] dX8_layBest_73 rfl (by decide) rfl ?_
                          have hl_74 : ∀ (N_74 : Nat) (pw : Int) (za : Nat → Nat → Int), (5 - pw).toNat < N_74 → (0 ≤ pw ∧ pw ≤ 4) → (∀ k, k ≠ 9 → za k = ma k) → (TabOk (rvM mi ma) (za 9) (u.toNat - 1)) → (∀ s : Nat, (s : Int) < 4 * v + pw → za 9 (64 * u.toNat + s) = bestF (rvM mi ma) u.toNat (s : Int)) → (∀ k : Nat, 64 * u + 4 * v + pw ≤ (k : Int) → k < 832 → za 9 k = 0) → ZMv l D vwCl (tysC cI cJ cZ cR) 18 q ({ frames := 3, cells := 0, slots := 0, locals := 73 } : Room) cX8_layBest 9 RX8 wsX8_layBest none (fun (g : Nat → va_E) => ∃ (ma' : Nat → Nat → Int), (TabOk (rvM mi ma) (ma' 9) 12 ∧ ∀ k, k ≠ 9 → ma' k = ma k) ∧ g = (cM cI cJ cZ q mi ma')) p e s m args below meth c (cM cI cJ cZ q mi za) 74 [(3, .int (iI pw)), (2, .int (iI v)), (1, .int (iI u)), (0, .ref (q 0))] [] := by
                            intro N_74
                            induction N_74 with
                            | zero => intro pw za hm; exact absurd hm (Nat.not_lt_zero _)
                            | succ N_74 ih_74 =>
                              intro pw za hm_74 hpw hza hzT hzn hz0
                              have hRza := MRv_9 hR hza
                              have hEza := rvM_9 (mi := mi) hza
                              have hU0 : (0 : Int) ≤ 10 ^ (u.toNat - 1) := Int.pow_nonneg (by omega)
                              have hU1 : (10 : Int) ^ (u.toNat - 1) ≤ 10 ^ 11 := pow10_leN (by omega)
                              have hU2 : (10 : Int) ^ 11 = 100000000000 := by decide
                              have hBr : ∀ s : Int, 0 ≤ s → 0 ≤ bestF (rvM mi ma) (u.toNat - 1) s ∧ bestF (rvM mi ma) (u.toNat - 1) s ≤ 10 ^ (u.toNat - 1) := fun s hs => bestF_rng hRM _ s hs
                              refine z_iload_n (j := 0) dX8_layBest_74 rfl rfl ?_
                              refine z_iconst dX8_layBest_75 ?_
                              refine z_icmp_ge (tgt := 144) dX8_layBest_76 (by decide) (by omega) (by decide) (fun c_76 => ?_) (fun c_76 => ?_)
                              · refine z_iinc (j := 1) [(2, .int (iI (v + 1))), (3, .int (iI pw)), (1, .int (iI u)), (0, .ref (q 0))] dX8_layBest_144 rfl (by decide) rfl ?_
                                refine z_goto (tgt := 62) dX8_layBest_147 (by decide) ?_
                                exact z_sub [(2, .int (iI (v + 1))), (1, .int (iI u)), (0, .ref (q 0))] [0, 2, 3] rfl (ih_62 (v + 1) za (by omega) (by omega) (hza) (hzT) (fun s hs => hzn s (by omega)) (fun k hk h8 => hz0 k (by omega) h8))
                              · refine z_lconst (z := 0) dX8_layBest_79 (by decide) ?_
                                refine z_lstore [(4, .long (lI 0)), (3, .int (iI pw)), (2, .int (iI v)), (1, .int (iI u)), (0, .ref (q 0))] dX8_layBest_80 (by decide) rfl ?_
                                refine z_iconst dX8_layBest_82 ?_
                                refine z_istore [(6, .int (iI 0)), (4, .long (lI 0)), (3, .int (iI pw)), (2, .int (iI v)), (1, .int (iI u)), (0, .ref (q 0))] dX8_layBest_83 (by decide) rfl ?_
                                have hl_85 : ∀ (N_85 : Nat) (a : Int) (mo : Int), (5 - a).toNat < N_85 → (0 ≤ a ∧ a ≤ 4) → (mo = max4 (rvM mi ma) (bestF (rvM mi ma) (u.toNat - 1)) (4 * v + pw) a.toNat) → ZMv l D vwCl (tysC cI cJ cZ cR) 18 q ({ frames := 3, cells := 0, slots := 0, locals := 73 } : Room) cX8_layBest 9 RX8 wsX8_layBest none (fun (g : Nat → va_E) => ∃ (ma' : Nat → Nat → Int), (TabOk (rvM mi ma) (ma' 9) 12 ∧ ∀ k, k ≠ 9 → ma' k = ma k) ∧ g = (cM cI cJ cZ q mi ma')) p e s m args below meth c (cM cI cJ cZ q mi za) 85 [(6, .int (iI a)), (4, .long (lI mo)), (3, .int (iI pw)), (2, .int (iI v)), (1, .int (iI u)), (0, .ref (q 0))] [] := by
                                  intro N_85
                                  induction N_85 with
                                  | zero => intro a mo hm; exact absurd hm (Nat.not_lt_zero _)
                                  | succ N_85 ih_85 =>
                                    intro a mo hm_85 ha hmo
                                    have hm1 := max4_rng (B := bestF (rvM mi ma) (u.toNat - 1)) hRM hU0 hBr (s := 4 * v + pw) (by omega) a.toNat
                                    rw [← hmo] at hm1
                                    refine z_iload (j := 0) dX8_layBest_85 rfl ?_
                                    refine z_iconst dX8_layBest_87 ?_
                                    refine z_icmp_ge (tgt := 125) dX8_layBest_88 (by decide) (by omega) (by decide) (fun c_88 => ?_) (fun c_88 => ?_)
                                    · refine z_aload_n (j := 5) dX8_layBest_125 rfl rfl ?_
                                      refine z_getf (i := 0) (ci := 8) (k := 19) (v := .ref (q 9)) dX8_layBest_126 m_X8_layBest_f34 in_X8_layBest_X8 rfl (by decide) rfl (by omega) rfl rfl ?_
                                      refine z_iload_n (j := 4) dX8_layBest_129 rfl rfl ?_
                                      refine z_iload_n (j := 3) dX8_layBest_130 rfl rfl ?_
                                      refine z_iload_n (j := 2) dX8_layBest_131 rfl rfl ?_
                                      refine z_callSi (As := [.int (iI u), .int (iI v), .int (iI pw)]) (rest := [.ref (q 9)]) (c_X8_placeOf  hq ) dX8_layBest_132 gX8_layBest_X8_placeOf rfl cd_X8_placeOf ⟨Nat.le_of_ble_eq_true rfl, Nat.le_of_ble_eq_true rfl⟩ rfl rfl rfl (Nat.le_of_ble_eq_true rfl) ⟨Nat.zero_le _, Nat.zero_le _⟩ (fun r_132 g_132 hp_132 => ?_)
                                      obtain ⟨⟨_, rfl, rfl⟩, rfl⟩ := hp_132
                                      refine z_lload (j := 1) dX8_layBest_135 rfl ?_
                                      refine z_last (i := 9) (g := za 9) 1 (cM cI cJ cZ q mi (va_up za 9 (va_up (za 9) (64 * u + 4 * v + pw).toNat mo))) dX8_layBest_137 (by omega) rfl rfl (by omega) (by omega) (by omega) la_9 ?_
                                      refine z_iinc (j := 2) [(3, .int (iI (pw + 1))), (6, .int (iI a)), (4, .long (lI mo)), (2, .int (iI v)), (1, .int (iI u)), (0, .ref (q 0))] dX8_layBest_138 rfl (by decide) rfl ?_
                                      refine z_goto (tgt := 74) dX8_layBest_141 (by decide) ?_
                                      exact z_sub [(3, .int (iI (pw + 1))), (2, .int (iI v)), (1, .int (iI u)), (0, .ref (q 0))] [0, 3, 4, 5] rfl (ih_74 (pw + 1) (va_up za 9 (va_up (za 9) (64 * u + 4 * v + pw).toNat mo)) (by omega) (by omega) (fun k hk => by rw [up_n hk]; exact hza k hk) (fun t s ht hs => by rw [up_s, up_n (by omega)]; exact hzT t s ht hs) (fun s hs => by
              rw [up_s]
              by_cases hk : s = (4 * v + pw).toNat
              · rw [show 64 * u.toNat + s = (64 * u + 4 * v + pw).toNat by omega, up_s, hmo, show a.toNat = 4 by omega, hk, castN (by omega)]
                have hg : bestF (rvM mi ma) u.toNat (4 * v + pw) = bestF (rvM mi ma) ((u.toNat - 1) + 1) (4 * v + pw) := by rw [show u.toNat - 1 + 1 = u.toNat by omega]
                rw [hg]
                rfl
              · rw [up_n (by omega)]; exact hzn s (by omega)) (fun k hk h8 => by rw [up_s, up_n (by omega)]; exact hz0 k (by omega) h8))
                                    · refine z_aload_n (j := 5) dX8_layBest_91 rfl rfl ?_
                                      refine z_iload (j := 0) dX8_layBest_92 rfl ?_
                                      refine z_iload_n (j := 4) dX8_layBest_94 rfl rfl ?_
                                      refine z_iload_n (j := 3) dX8_layBest_95 rfl rfl ?_
                                      refine z_iload_n (j := 2) dX8_layBest_96 rfl rfl ?_
                                      refine z_callVl (i := 0) (ci := 8) (As := [.int (iI a), .int (iI u), .int (iI v), .int (iI pw)]) (rest := []) (c_X8_bestBy  hq hRza (by omega) (by omega) (by omega) (by omega) (by omega) (by rw [hEza]; exact fun s hs => hzT _ s (by omega) hs)) dX8_layBest_97 gX8_layBest_X8_bestBy rfl cd_X8_bestBy ⟨Nat.le_of_ble_eq_true rfl, Nat.le_of_ble_eq_true rfl⟩ rfl rfl (by omega) rfl rfl rfl (Nat.le_of_ble_eq_true rfl) ⟨Nat.zero_le _, Nat.zero_le _⟩ (fun r_97 g_97 hp_97 => ?_)
                                      obtain ⟨⟨e_97, he_97, rfl⟩, rfl⟩ := hp_97
                                      rw [hEza] at he_97
                                      have hb1 := byA_rng (B := bestF (rvM mi ma) (u.toNat - 1)) hRM hU0 hBr (act := a) (s := 4 * v + pw) (by omega)
                                      rw [← he_97] at hb1
                                      refine z_lstore [(7, .long (lI e_97)), (6, .int (iI a)), (4, .long (lI mo)), (3, .int (iI pw)), (2, .int (iI v)), (1, .int (iI u)), (0, .ref (q 0))] dX8_layBest_100 (by decide) rfl ?_
                                      refine z_lload (j := 0) dX8_layBest_102 rfl ?_
                                      refine z_lload (j := 2) dX8_layBest_104 rfl ?_
                                      refine z_lcmp dX8_layBest_106 (by omega) (by omega) (fun r_106 hr_106 => ?_)
                                      refine z_if_le (tgt := 115) dX8_layBest_107 (by decide) (by omega) (fun c_107 => ?_) (fun c_107 => ?_)
                                      · refine z_lload (j := 2) dX8_layBest_115 rfl ?_
                                        refine z_lstore [(4, .long (lI mo)), (7, .long (lI e_97)), (6, .int (iI a)), (3, .int (iI pw)), (2, .int (iI v)), (1, .int (iI u)), (0, .ref (q 0))] dX8_layBest_117 (by decide) rfl ?_
                                        refine z_iinc (j := 2) [(6, .int (iI (a + 1))), (4, .long (lI mo)), (7, .long (lI e_97)), (3, .int (iI pw)), (2, .int (iI v)), (1, .int (iI u)), (0, .ref (q 0))] dX8_layBest_119 rfl (by decide) rfl ?_
                                        refine z_goto (tgt := 85) dX8_layBest_122 (by decide) ?_
                                        exact z_sub [(6, .int (iI (a + 1))), (4, .long (lI mo)), (3, .int (iI pw)), (2, .int (iI v)), (1, .int (iI u)), (0, .ref (q 0))] [0, 1, 3, 4, 5, 6] rfl (ih_85 (a + 1) mo (by omega) (by omega) (by rw [stepN ha.1, max4, ← hmo, castN ha.1, ← he_97]; omega))
                                      · refine z_lload (j := 0) dX8_layBest_110 rfl ?_
                                        refine z_goto (tgt := 117) dX8_layBest_112 (by decide) ?_
                                        refine z_lstore [(4, .long (lI e_97)), (7, .long (lI e_97)), (6, .int (iI a)), (3, .int (iI pw)), (2, .int (iI v)), (1, .int (iI u)), (0, .ref (q 0))] dX8_layBest_117 (by decide) rfl ?_
                                        refine z_iinc (j := 2) [(6, .int (iI (a + 1))), (4, .long (lI e_97)), (7, .long (lI e_97)), (3, .int (iI pw)), (2, .int (iI v)), (1, .int (iI u)), (0, .ref (q 0))] dX8_layBest_119 rfl (by decide) rfl ?_
                                        refine z_goto (tgt := 85) dX8_layBest_122 (by decide) ?_
                                        exact z_sub [(6, .int (iI (a + 1))), (4, .long (lI e_97)), (3, .int (iI pw)), (2, .int (iI v)), (1, .int (iI u)), (0, .ref (q 0))] [0, 1, 3, 4, 5, 6] rfl (ih_85 (a + 1) e_97 (by omega) (by omega) (by rw [stepN ha.1, max4, ← hmo, castN ha.1, ← he_97]; omega))
                                exact z_sub [(6, .int (iI 0)), (4, .long (lI 0)), (3, .int (iI pw)), (2, .int (iI v)), (1, .int (iI u)), (0, .ref (q 0))] [0, 1, 2, 3, 4, 5] rfl (hl_85 _ 0 0 (Nat.lt_succ_self _) (by omega) (rfl))
                          exact z_sub [(3, .int (iI 0)), (2, .int (iI v)), (1, .int (iI u)), (0, .ref (q 0))] [0, 1, 2, 3] rfl (hl_74 _ 0 za (Nat.lt_succ_self _) (by omega) (hza) (hzT) (fun s hs => hzn s (by omega)) (fun k hk h8 => hz0 k (by omega) h8))
                    exact z_sub [(2, .int (iI 0)), (1, .int (iI u)), (0, .ref (q 0))] [0, 1, 2] rfl (hl_62 _ 0 ya (Nat.lt_succ_self _) (by omega) (hya) (hT) (fun s hs => absurd hs (by omega)) (fun k hk h8 => h0 k (by omega) h8))
              exact z_sub [(1, .int (iI 1)), (0, .ref (q 0))] [0, 1] rfl (hl_54 _ 1 ya (Nat.lt_succ_self _) (by omega) (hya) (fun t s ht hs => by
          rw [show t = 0 by omega, show 64 * 0 + s = s by omega, h0 s (by omega), bestF, hnn]
          by_cases hw : (s : Int) / 4 = mi 1 - 1
          · rw [if_pos hw, if_pos (by omega)]
          · rw [if_neg hw, if_neg (by omega)]) (fun k hk h8 => by rw [h0 k h8, if_neg (by omega)]))
            · refine z_aload_n (j := 1) dX8_layBest_29 rfl rfl ?_
              refine z_getf (i := 0) (ci := 8) (k := 19) (v := .ref (q 9)) dX8_layBest_30 m_X8_layBest_f34 in_X8_layBest_X8 rfl (by decide) rfl (by omega) rfl rfl ?_
              refine z_iconst dX8_layBest_33 ?_
              refine z_aload_n (j := 1) dX8_layBest_34 rfl rfl ?_
              refine z_getf (i := 0) (ci := 8) (k := 1) (v := .int (iI (mi 1))) dX8_layBest_35 m_X8_layBest_f75 in_X8_layBest_X8 rfl (by decide) rfl (by omega) rfl rfl ?_
              refine z_iconst dX8_layBest_38 ?_
              refine z_isub dX8_layBest_39 ?_
              refine z_iload_n (j := 0) dX8_layBest_40 rfl rfl ?_
              refine z_callSi (As := [.int (iI 0), .int (iI ((mi 1) - 1)), .int (iI pw)]) (rest := [.ref (q 9)]) (c_X8_placeOf  hq ) dX8_layBest_41 gX8_layBest_X8_placeOf rfl cd_X8_placeOf ⟨Nat.le_of_ble_eq_true rfl, Nat.le_of_ble_eq_true rfl⟩ rfl rfl rfl (Nat.le_of_ble_eq_true rfl) ⟨Nat.zero_le _, Nat.zero_le _⟩ (fun r_41 g_41 hp_41 => ?_)
              obtain ⟨⟨_, rfl, rfl⟩, rfl⟩ := hp_41
              refine z_lconst (z := 1) dX8_layBest_44 (by decide) ?_
              refine z_last (i := 9) (g := ya 9) 1 (cM cI cJ cZ q mi (va_up ya 9 (va_up (ya 9) (64 * 0 + 4 * ((mi 1) - 1) + pw).toNat 1))) dX8_layBest_45 (by omega) rfl rfl (by omega) (by omega) (by omega) la_9 ?_
              refine z_iinc (j := 0) [(1, .int (iI (pw + 1))), (0, .ref (q 0))] dX8_layBest_46 rfl (by decide) rfl ?_
              refine z_goto (tgt := 24) dX8_layBest_49 (by decide) ?_
              exact z_sub [(1, .int (iI (pw + 1))), (0, .ref (q 0))] [0, 1] rfl (ih_24 (pw + 1) (va_up ya 9 (va_up (ya 9) (64 * 0 + 4 * ((mi 1) - 1) + pw).toNat 1)) (by omega) (by omega) (fun k hk => by rw [up_n hk]; exact hya k hk) (fun k hk => by
            rw [up_s]
            by_cases hq : k = (64 * 0 + 4 * (mi 1 - 1) + pw).toNat
            · rw [hq, up_s, if_pos (by omega)]
            · rw [up_n hq, h0 k hk]
              by_cases hw : 4 * (mi 1 - 1) ≤ (k : Int) ∧ (k : Int) < 4 * (mi 1 - 1) + pw
              · rw [if_pos hw, if_pos (by omega)]
              · rw [if_neg hw, if_neg (by omega)]))
        exact z_sub [(1, .int (iI 0)), (0, .ref (q 0))] [0, 1] rfl (hl_24 _ 0 ya (Nat.lt_succ_self _) (by omega) (hya) (fun k hk => by rw [if_neg (by omega)]; exact h0 k (by omega)))
      · refine z_aload_n (j := 1) dX8_layBest_9 rfl rfl ?_
        refine z_getf (i := 0) (ci := 8) (k := 19) (v := .ref (q 9)) dX8_layBest_10 m_X8_layBest_f34 in_X8_layBest_X8 rfl (by decide) rfl (by omega) rfl rfl ?_
        refine z_iload_n (j := 0) dX8_layBest_13 rfl rfl ?_
        refine z_lconst (z := 0) dX8_layBest_14 (by decide) ?_
        refine z_last (i := 9) (g := ya 9) 1 (cM cI cJ cZ q mi (va_up ya 9 (va_up (ya 9) u.toNat 0))) dX8_layBest_15 (by omega) rfl rfl (by omega) (by omega) (by omega) la_9 ?_
        refine z_iinc (j := 0) [(1, .int (iI (u + 1))), (0, .ref (q 0))] dX8_layBest_16 rfl (by decide) rfl ?_
        refine z_goto (tgt := 2) dX8_layBest_19 (by decide) ?_
        exact z_sub [(1, .int (iI (u + 1))), (0, .ref (q 0))] [0, 1] rfl (ih_2 (u + 1) (va_up ya 9 (va_up (ya 9) u.toNat 0)) (by omega) (by omega) (fun k hk => by rw [up_n hk]; exact hya k hk) (fun k hk => by
            rw [up_s]
            by_cases hq : k = u.toNat
            · rw [hq, up_s]
            · rw [up_n hq]; exact h0 k (by omega)))
  exact z_sub [(1, .int (iI 0)), (0, .ref (q 0))] [0, 1] rfl (hl_2 _ 0 ma (Nat.lt_succ_self _) (by omega) (fun _ _ => rfl) (fun k hk => absurd hk (by omega)))
theorem cd_X8_layBest : yX8_layBest.cls = RX8 ∧ yX8_layBest.cls ≠ "java/lang/invoke/MethodHandle" ∧ yX8_layBest.cls ≠ "java/lang/invoke/VarHandle" ∧ (parseMethodDescriptor yX8_layBest.desc).map (fun d => d.parameters.length) = some 0 := ⟨rfl, by decide +kernel, by decide +kernel, by decide +kernel⟩
theorem m_X8_surestTurns_f34 : Cond.fieldLink RX8 34 "PoleBehindModel" "bestFrom" "[J" ∈ wsX8_surestTurns := List.mem_of_getElem? (i := 1) rfl
theorem in_X8_surestTurns_X8 : ∀ w ∈ wsX80, w ∈ wsX8_surestTurns := fun _ h => List.mem_cons_of_mem _ (List.mem_append_right _ h)
theorem m_X8_surestTurns_f127 : Cond.fieldLink RX8 127 "PoleBehindModel" "paceFirst" "I" ∈ wsX8_surestTurns := List.mem_of_getElem? (i := 2) rfl
set_option maxHeartbeats 400000 in
set_option maxRecDepth 100000 in
theorem c_X8_surestTurns {l : Launch} {D : va_G} {cI cJ cZ cR : ClassId} {q : Nat → Nat} {mi : Nat → Int} {ma : Nat → Nat → Int} (hq : qOk 18 q) {nn : Int} (hR : MRv mi ma) (h1 : 1 ≤ mi 1) (hn : 1 ≤ nn ∧ nn ≤ 12) : Cti l D vwCl (tysC cI cJ cZ cR) 18 q yX8_surestTurns wsX8_surestTurns ({ frames := 4, cells := 0, slots := 0, locals := 101 } : Room) [.ref (q 0), .int (iI nn)] (cM cI cJ cZ q mi ma) (fun (r : Int32) (g : Nat → va_E) => ∃ (e : Int) (ma' : Nat → Nat → Int), (e = ntA (surT (rvM mi ma) (mi 2) nn.toNat).2 ∧ TabOk (rvM mi ma) (ma' 9) 12 ∧ ∀ k, k ≠ 9 → ma' k = ma k) ∧ r = iI e ∧ g = (cM cI cJ cZ q mi ma')) := by
  refine Cti.of (cc := cX8_surestTurns) (nL := 8) (own := RX8) (ret := (some .int)) (by decide) rfl rfl hq (Nat.le_of_ble_eq_true rfl) (fun p e s m args below meth c => ?_)
  obtain ⟨hN, hP, hK, hM, hD, hB⟩ := id hR
  have hRM := MRv_M hR
  have hnn : rN (rvM mi ma) = mi 1 := rfl
  refine z_aload_n (j := 0) dX8_surestTurns_0 rfl rfl ?_
  refine z_callVv (i := 0) (ci := 8) (As := []) (rest := []) (c_X8_layBest  hq hR (by omega)) dX8_surestTurns_1 gX8_surestTurns_X8_layBest rfl cd_X8_layBest ⟨Nat.le_of_ble_eq_true rfl, Nat.le_of_ble_eq_true rfl⟩ rfl rfl (by omega) rfl rfl rfl (Nat.le_of_ble_eq_true rfl) ⟨Nat.zero_le _, Nat.zero_le _⟩ (fun g_1 hp_1 => ?_)
  obtain ⟨ma_1, he_1, rfl⟩ := hp_1
  obtain ⟨hT, hK9⟩ := he_1
  refine z_bipush dX8_surestTurns_4 (by decide) ?_
  refine z_istore_n [(2, .int (iI (-9))), (0, .ref (q 0)), (1, .int (iI nn))] dX8_surestTurns_6 rfl (by decide) rfl ?_
  refine z_lconst (z := 0) dX8_surestTurns_7 (by decide) ?_
  refine z_lstore_n [(3, .long (lI 0)), (2, .int (iI (-9))), (0, .ref (q 0)), (1, .int (iI nn))] dX8_surestTurns_8 rfl (by decide) rfl ?_
  refine z_iconst dX8_surestTurns_9 ?_
  refine z_istore [(5, .int (iI 1)), (3, .long (lI 0)), (2, .int (iI (-9))), (0, .ref (q 0)), (1, .int (iI nn))] dX8_surestTurns_10 (by decide) rfl ?_
  have hl_12 : ∀ (N_12 : Nat) (u : Int) (be : Int) (mo : Int), (14 - u).toNat < N_12 → (1 ≤ u ∧ u ≤ nn + 1) → ((surT (rvM mi ma) (mi 2) (u.toNat - 1)).1 = mo) → (be = ntA (surT (rvM mi ma) (mi 2) (u.toNat - 1)).2) → ZMi l D vwCl (tysC cI cJ cZ cR) 18 q ({ frames := 4, cells := 0, slots := 0, locals := 101 } : Room) cX8_surestTurns 8 RX8 wsX8_surestTurns (some .int) (fun (r : Int32) (g : Nat → va_E) => ∃ (e : Int) (ma' : Nat → Nat → Int), (e = ntA (surT (rvM mi ma) (mi 2) nn.toNat).2 ∧ TabOk (rvM mi ma) (ma' 9) 12 ∧ ∀ k, k ≠ 9 → ma' k = ma k) ∧ r = iI e ∧ g = (cM cI cJ cZ q mi ma')) p e s m args below meth c (cM cI cJ cZ q mi ma_1) 12 [(5, .int (iI u)), (3, .long (lI mo)), (2, .int (iI be)), (0, .ref (q 0)), (1, .int (iI nn))] [] := by
    intro N_12
    induction N_12 with
    | zero => intro u be mo hm; exact absurd hm (Nat.not_lt_zero _)
    | succ N_12 ih_12 =>
      intro u be mo hm_12 hu hs hb
      have hsr := surT_rng hRM (p := mi 2) hP.1 (u.toNat - 1) (by omega)
      rw [hs] at hsr
      refine z_iload (j := 0) dX8_surestTurns_12 rfl ?_
      refine z_iload_n (j := 4) dX8_surestTurns_14 rfl rfl ?_
      refine z_icmp_gt (tgt := 78) dX8_surestTurns_15 (by decide) (by omega) (by omega) (fun c_15 => ?_) (fun c_15 => ?_)
      · refine z_iload_n (j := 2) dX8_surestTurns_78 rfl rfl ?_
        exact z_iret dX8_surestTurns_79 ⟨_, _, (by rw [hb, show u.toNat - 1 = nn.toNat by omega]; exact ⟨rfl, hT, hK9⟩), rfl, rfl⟩
      · refine z_aload_n (j := 3) dX8_surestTurns_18 rfl rfl ?_
        refine z_getf (i := 0) (ci := 8) (k := 19) (v := .ref (q 9)) dX8_surestTurns_19 m_X8_surestTurns_f34 in_X8_surestTurns_X8 rfl (by decide) rfl (by omega) rfl rfl ?_
        refine z_iload (j := 0) dX8_surestTurns_22 rfl ?_
        refine z_iconst dX8_surestTurns_24 ?_
        refine z_aload_n (j := 3) dX8_surestTurns_25 rfl rfl ?_
        refine z_getf (i := 0) (ci := 8) (k := 2) (v := .int (iI (mi 2))) dX8_surestTurns_26 m_X8_surestTurns_f127 in_X8_surestTurns_X8 rfl (by decide) rfl (by omega) rfl rfl ?_
        refine z_callSi (As := [.int (iI u), .int (iI 0), .int (iI (mi 2))]) (rest := [.ref (q 9)]) (c_X8_placeOf  hq ) dX8_surestTurns_29 gX8_surestTurns_X8_placeOf rfl cd_X8_placeOf ⟨Nat.le_of_ble_eq_true rfl, Nat.le_of_ble_eq_true rfl⟩ rfl rfl rfl (Nat.le_of_ble_eq_true rfl) ⟨Nat.zero_le _, Nat.zero_le _⟩ (fun r_29 g_29 hp_29 => ?_)
        obtain ⟨⟨_, rfl, rfl⟩, rfl⟩ := hp_29
        refine z_lald (i := 9) (g := ma_1 9) 1 dX8_surestTurns_32 (by omega) rfl rfl (by omega) (by omega) (by omega) ?_
        refine z_bipush dX8_surestTurns_33 (by decide) ?_
        refine z_iload (j := 0) dX8_surestTurns_35 rfl ?_
        refine z_isub dX8_surestTurns_37 ?_
        refine z_callSl (As := [.int (iI (12 - u))]) (rest := [.long (lI (ma_1 9 (64 * u + 4 * 0 + (mi 2)).toNat))]) (c_X8_tens  hq (by omega)) dX8_surestTurns_38 gX8_surestTurns_X8_tens rfl cd_X8_tens ⟨Nat.le_of_ble_eq_true rfl, Nat.le_of_ble_eq_true rfl⟩ rfl rfl rfl (Nat.le_of_ble_eq_true rfl) ⟨Nat.zero_le _, Nat.zero_le _⟩ (fun r_38 g_38 hp_38 => ?_)
        obtain ⟨⟨_, rfl, rfl⟩, rfl⟩ := hp_38
        refine z_lmul dX8_surestTurns_41 ?_
        obtain ⟨it, hit⟩ : ∃ it : Int, it = (ma_1 9 (64 * u + 4 * 0 + (mi 2)).toNat) * (10 ^ (12 - u).toNat) := ⟨_, rfl⟩
        refine z_topl (lI it) (by rw [hit]) ?_
        have hiX : it = bestF (rvM mi ma) u.toNat (mi 2) * 10 ^ (12 - u.toNat) := by
          have g := hT u.toNat (mi 2).toNat (by omega) (by rw [hnn]; omega)
          rw [castN hP.1, show 64 * u.toNat + (mi 2).toNat = (64 * u + 4 * 0 + mi 2).toNat by omega] at g
          rw [hit, g, show (12 - u).toNat = 12 - u.toNat by omega]
        have hsb := surB hRM (k := u.toNat) (by omega) hP.1
        rw [← hiX] at hsb
        have hs1 := surT_1 (R := (rvM mi ma)) (p := mi 2) (k := u.toNat - 1)
        have hs2 := surT_2 (R := (rvM mi ma)) (p := mi 2) (k := u.toNat - 1)
        rw [show u.toNat - 1 + 1 = u.toNat by omega, show 11 - (u.toNat - 1) = 12 - u.toNat by omega, ← hiX, hs] at hs1
        rw [show u.toNat - 1 + 1 = u.toNat by omega, show 11 - (u.toNat - 1) = 12 - u.toNat by omega, ← hiX, hs] at hs2
        refine z_lstore [(6, .long (lI it)), (5, .int (iI u)), (3, .long (lI mo)), (2, .int (iI be)), (0, .ref (q 0)), (1, .int (iI nn))] dX8_surestTurns_42 (by decide) rfl ?_
        refine z_lload (j := 0) dX8_surestTurns_44 rfl ?_
        refine z_lload_n (j := 2) dX8_surestTurns_46 rfl rfl ?_
        refine z_lcmp dX8_surestTurns_47 (by omega) (by omega) (fun r_47 hr_47 => ?_)
        refine z_if_le (tgt := 56) dX8_surestTurns_48 (by decide) (by omega) (fun c_48 => ?_) (fun c_48 => ?_)
        · refine z_iload_n (j := 3) dX8_surestTurns_56 rfl rfl ?_
          refine z_istore_n [(2, .int (iI be)), (6, .long (lI it)), (5, .int (iI u)), (3, .long (lI mo)), (0, .ref (q 0)), (1, .int (iI nn))] dX8_surestTurns_57 rfl (by decide) rfl ?_
          refine z_lload (j := 1) dX8_surestTurns_58 rfl ?_
          refine z_lload_n (j := 3) dX8_surestTurns_60 rfl rfl ?_
          refine z_lcmp dX8_surestTurns_61 (by omega) (by omega) (fun r_61 hr_61 => ?_)
          refine z_if_le (tgt := 70) dX8_surestTurns_62 (by decide) (by omega) (fun c_62 => ?_) (fun c_62 => ?_)
          · refine z_lload_n (j := 3) dX8_surestTurns_70 rfl rfl ?_
            refine z_lstore_n [(3, .long (lI mo)), (2, .int (iI be)), (6, .long (lI it)), (5, .int (iI u)), (0, .ref (q 0)), (1, .int (iI nn))] dX8_surestTurns_71 rfl (by decide) rfl ?_
            refine z_iinc (j := 3) [(5, .int (iI (u + 1))), (3, .long (lI mo)), (2, .int (iI be)), (6, .long (lI it)), (0, .ref (q 0)), (1, .int (iI nn))] dX8_surestTurns_72 rfl (by decide) rfl ?_
            refine z_goto (tgt := 12) dX8_surestTurns_75 (by decide) ?_
            exact z_sub [(5, .int (iI (u + 1))), (3, .long (lI mo)), (2, .int (iI be)), (0, .ref (q 0)), (1, .int (iI nn))] [0, 1, 2, 4, 5] rfl (ih_12 (u + 1) be mo (by omega) (by omega) (by rw [show (u + 1).toNat - 1 = u.toNat by omega]; omega) (by
            rw [show (u + 1).toNat - 1 = u.toNat by omega]
            first
              | (rw [hs2.2 (by omega)]; exact hb)
              | (rw [hs2.1 (by omega), castN (by omega), ntA, if_neg (by omega)])
              | exact absurd c_48 (by omega)
              | exact absurd c_62 (by omega)))
          · refine z_lload (j := 1) dX8_surestTurns_65 rfl ?_
            refine z_goto (tgt := 71) dX8_surestTurns_67 (by decide) ?_
            refine z_lstore_n [(3, .long (lI it)), (2, .int (iI be)), (6, .long (lI it)), (5, .int (iI u)), (0, .ref (q 0)), (1, .int (iI nn))] dX8_surestTurns_71 rfl (by decide) rfl ?_
            refine z_iinc (j := 3) [(5, .int (iI (u + 1))), (3, .long (lI it)), (2, .int (iI be)), (6, .long (lI it)), (0, .ref (q 0)), (1, .int (iI nn))] dX8_surestTurns_72 rfl (by decide) rfl ?_
            refine z_goto (tgt := 12) dX8_surestTurns_75 (by decide) ?_
            exact z_sub [(5, .int (iI (u + 1))), (3, .long (lI it)), (2, .int (iI be)), (0, .ref (q 0)), (1, .int (iI nn))] [0, 1, 2, 4, 5] rfl (ih_12 (u + 1) be it (by omega) (by omega) (by rw [show (u + 1).toNat - 1 = u.toNat by omega]; omega) (by
            rw [show (u + 1).toNat - 1 = u.toNat by omega]
            first
              | (rw [hs2.2 (by omega)]; exact hb)
              | (rw [hs2.1 (by omega), castN (by omega), ntA, if_neg (by omega)])
              | exact absurd c_48 (by omega)
              | exact absurd c_62 (by omega)))
        · refine z_iload (j := 1) dX8_surestTurns_51 rfl ?_
          refine z_goto (tgt := 57) dX8_surestTurns_53 (by decide) ?_
          refine z_istore_n [(2, .int (iI u)), (6, .long (lI it)), (5, .int (iI u)), (3, .long (lI mo)), (0, .ref (q 0)), (1, .int (iI nn))] dX8_surestTurns_57 rfl (by decide) rfl ?_
          refine z_lload (j := 1) dX8_surestTurns_58 rfl ?_
          refine z_lload_n (j := 3) dX8_surestTurns_60 rfl rfl ?_
          refine z_lcmp dX8_surestTurns_61 (by omega) (by omega) (fun r_61 hr_61 => ?_)
          refine z_if_le (tgt := 70) dX8_surestTurns_62 (by decide) (by omega) (fun c_62 => ?_) (fun c_62 => ?_)
          · refine z_lload_n (j := 3) dX8_surestTurns_70 rfl rfl ?_
            refine z_lstore_n [(3, .long (lI mo)), (2, .int (iI u)), (6, .long (lI it)), (5, .int (iI u)), (0, .ref (q 0)), (1, .int (iI nn))] dX8_surestTurns_71 rfl (by decide) rfl ?_
            refine z_iinc (j := 3) [(5, .int (iI (u + 1))), (3, .long (lI mo)), (2, .int (iI u)), (6, .long (lI it)), (0, .ref (q 0)), (1, .int (iI nn))] dX8_surestTurns_72 rfl (by decide) rfl ?_
            refine z_goto (tgt := 12) dX8_surestTurns_75 (by decide) ?_
            exact z_sub [(5, .int (iI (u + 1))), (3, .long (lI mo)), (2, .int (iI u)), (0, .ref (q 0)), (1, .int (iI nn))] [0, 1, 2, 4, 5] rfl (ih_12 (u + 1) u mo (by omega) (by omega) (by rw [show (u + 1).toNat - 1 = u.toNat by omega]; omega) (by
            rw [show (u + 1).toNat - 1 = u.toNat by omega]
            first
              | (rw [hs2.2 (by omega)]; exact hb)
              | (rw [hs2.1 (by omega), castN (by omega), ntA, if_neg (by omega)])
              | exact absurd c_48 (by omega)
              | exact absurd c_62 (by omega)))
          · refine z_lload (j := 1) dX8_surestTurns_65 rfl ?_
            refine z_goto (tgt := 71) dX8_surestTurns_67 (by decide) ?_
            refine z_lstore_n [(3, .long (lI it)), (2, .int (iI u)), (6, .long (lI it)), (5, .int (iI u)), (0, .ref (q 0)), (1, .int (iI nn))] dX8_surestTurns_71 rfl (by decide) rfl ?_
            refine z_iinc (j := 3) [(5, .int (iI (u + 1))), (3, .long (lI it)), (2, .int (iI u)), (6, .long (lI it)), (0, .ref (q 0)), (1, .int (iI nn))] dX8_surestTurns_72 rfl (by decide) rfl ?_
            refine z_goto (tgt := 12) dX8_surestTurns_75 (by decide) ?_
            exact z_sub [(5, .int (iI (u + 1))), (3, .long (lI it)), (2, .int (iI u)), (0, .ref (q 0)), (1, .int (iI nn))] [0, 1, 2, 4, 5] rfl (ih_12 (u + 1) u it (by omega) (by omega) (by rw [show (u + 1).toNat - 1 = u.toNat by omega]; omega) (by
            rw [show (u + 1).toNat - 1 = u.toNat by omega]
            first
              | (rw [hs2.2 (by omega)]; exact hb)
              | (rw [hs2.1 (by omega), castN (by omega), ntA, if_neg (by omega)])
              | exact absurd c_48 (by omega)
              | exact absurd c_62 (by omega)))
  exact z_sub [(5, .int (iI 1)), (3, .long (lI 0)), (2, .int (iI (-9))), (0, .ref (q 0)), (1, .int (iI nn))] [0, 1, 2, 3, 4] rfl (hl_12 _ 1 (-9) 0 (Nat.lt_succ_self _) (by omega) (rfl) (rfl))
theorem m_X8_surest_C220 : Cond.constantLong RX8 220 (lI (12)) ∈ wsX8_surest := List.mem_of_getElem? (i := 1) (by decide +kernel)
theorem m_X8_surest_C222 : Cond.constantLong RX8 222 (lI (-1)) ∈ wsX8_surest := List.mem_of_getElem? (i := 2) (by decide +kernel)
theorem m_X8_surest_C224 : Cond.constantLong RX8 224 (lI (11)) ∈ wsX8_surest := List.mem_of_getElem? (i := 3) (by decide +kernel)
theorem m_X8_surest_f75 : Cond.fieldLink RX8 75 "PoleBehindModel" "cells" "I" ∈ wsX8_surest := List.mem_of_getElem? (i := 4) rfl
theorem in_X8_surest_X8 : ∀ w ∈ wsX80, w ∈ wsX8_surest := fun _ h => List.mem_cons_of_mem _ (List.mem_append_right _ h)
theorem cd_X8_surestTurns : yX8_surestTurns.cls = RX8 ∧ yX8_surestTurns.cls ≠ "java/lang/invoke/MethodHandle" ∧ yX8_surestTurns.cls ≠ "java/lang/invoke/VarHandle" ∧ (parseMethodDescriptor yX8_surestTurns.desc).map (fun d => d.parameters.length) = some 1 := ⟨rfl, by decide +kernel, by decide +kernel, by decide +kernel⟩
theorem m_X8_surest_f127 : Cond.fieldLink RX8 127 "PoleBehindModel" "paceFirst" "I" ∈ wsX8_surest := List.mem_of_getElem? (i := 5) rfl
theorem m_X8_surest_f34 : Cond.fieldLink RX8 34 "PoleBehindModel" "bestFrom" "[J" ∈ wsX8_surest := List.mem_of_getElem? (i := 6) rfl
set_option maxHeartbeats 400000 in
set_option maxRecDepth 100000 in
theorem c_X8_surest {l : Launch} {D : va_G} {cI cJ cZ cR : ClassId} {q : Nat → Nat} {mi : Nat → Int} {ma : Nat → Nat → Int} (hq : qOk 18 q) {nn qq : Int} (hO : MOk mi ma) (hnn2 : -2147483648 ≤ nn ∧ nn < 2147483648) (hqq : -2147483648 ≤ qq ∧ qq < 2147483648) : Cti l D vwCl (tysC cI cJ cZ cR) 18 q yX8_surest wsX8_surest ({ frames := 5, cells := 0, slots := 0, locals := 128 } : Room) [.ref (q 0), .int (iI nn), .int (iI qq)] (cM cI cJ cZ q mi ma) (fun (r : Int32) (g : Nat → va_E) => ∃ (e : Int) (ma' : Nat → Nat → Int), (spSurest (vM mi ma) nn qq e ∧ vM mi ma' = (vM mi ma) ∧ MOk mi ma') ∧ r = iI e ∧ g = (cM cI cJ cZ q mi ma')) := by
  refine Cti.of (cc := cX8_surest) (nL := 9) (own := RX8) (ret := (some .int)) (by decide) rfl rfl hq (Nat.le_of_ble_eq_true rfl) (fun p e s m args below meth c => ?_)
  obtain ⟨hR, hn2, hQ, hSh, hSn, hHd, hRdg, hfa⟩ := id hO
  obtain ⟨hN, hP, hK, hM, hD, hB⟩ := id hR
  have hRM := MRv_M hR
  have hnn : rN (rvM mi ma) = mi 1 := rfl
  have hnA : rN (aR (vM mi ma)) = mi 1 := rfl
  refine z_iload_n (j := 1) dX8_surest_0 rfl rfl ?_
  refine z_i2l dX8_surest_1 (by omega) ?_
  refine z_lconst (z := 1) dX8_surest_2 (by decide) ?_
  refine z_ldc2 dX8_surest_3 m_X8_surest_C220 ?_
  refine z_callSi (As := [.long (lI nn), .long (lI 1), .long (lI 12)]) (rest := []) (c_X8_in  hq (by omega) (by omega) (by omega)) dX8_surest_6 gX8_surest_X8_in rfl cd_X8_in ⟨Nat.le_of_ble_eq_true rfl, Nat.le_of_ble_eq_true rfl⟩ rfl rfl rfl (Nat.le_of_ble_eq_true rfl) ⟨Nat.zero_le _, Nat.zero_le _⟩ (fun r_6 g_6 hp_6 => ?_)
  obtain ⟨⟨h_6, rfl⟩ | ⟨h_6, rfl⟩, rfl⟩ := hp_6
  · refine z_if_eq (tgt := 26) dX8_surest_9 (by decide) (by decide) (fun h => absurd h (by decide)) (fun _ => ?_)
    refine z_iload_n (j := 2) dX8_surest_12 rfl rfl ?_
    refine z_i2l dX8_surest_13 (by omega) ?_
    refine z_ldc2 dX8_surest_14 m_X8_surest_C222 ?_
    refine z_ldc2 dX8_surest_17 m_X8_surest_C224 ?_
    refine z_callSi (As := [.long (lI qq), .long (lI (-1)), .long (lI 11)]) (rest := []) (c_X8_in  hq (by omega) (by omega) (by omega)) dX8_surest_20 gX8_surest_X8_in rfl cd_X8_in ⟨Nat.le_of_ble_eq_true rfl, Nat.le_of_ble_eq_true rfl⟩ rfl rfl rfl (Nat.le_of_ble_eq_true rfl) ⟨Nat.zero_le _, Nat.zero_le _⟩ (fun r_20 g_20 hp_20 => ?_)
    obtain ⟨⟨h_20, rfl⟩ | ⟨h_20, rfl⟩, rfl⟩ := hp_20
    · refine z_if_ne (tgt := 29) dX8_surest_23 (by decide) (by decide) (fun _ => ?_) (fun h => absurd h (by decide))
      refine z_aload_n (j := 0) dX8_surest_29 rfl rfl ?_
      refine z_getf (i := 0) (ci := 8) (k := 1) (v := .int (iI (mi 1))) dX8_surest_30 m_X8_surest_f75 in_X8_surest_X8 rfl (by decide) rfl (by omega) rfl rfl ?_
      refine z_if_ne (tgt := 39) dX8_surest_33 (by decide) (by omega) (fun c_33 => ?_) (fun c_33 => ?_)
      · refine z_aload_n (j := 0) dX8_surest_39 rfl rfl ?_
        refine z_iload_n (j := 1) dX8_surest_40 rfl rfl ?_
        refine z_callVi (i := 0) (ci := 8) (As := [.int (iI nn)]) (rest := []) (c_X8_surestTurns  hq hR (by omega) (by omega)) dX8_surest_41 gX8_surest_X8_surestTurns rfl cd_X8_surestTurns ⟨Nat.le_of_ble_eq_true rfl, Nat.le_of_ble_eq_true rfl⟩ rfl rfl (by omega) rfl rfl rfl (Nat.le_of_ble_eq_true rfl) ⟨Nat.zero_le _, Nat.zero_le _⟩ (fun r_41 g_41 hp_41 => ?_)
        obtain ⟨e_41, ma_41, he_41, rfl, rfl⟩ := hp_41
        obtain ⟨q1, hT, hK9⟩ := he_41
        have hRy := MRv_9 hR hK9
        have hEy := rvM_9 (mi := mi) hK9
        have hsr := surT_rng hRM (p := mi 2) hP.1 nn.toNat (by omega)
        have hv : vM mi ma_41 = vM mi ma := vM_9 hK9
        have ho : MOk mi ma_41 := MOk_9 hO hK9
        have hse : ((surT (rvM mi ma) (mi 2) nn.toNat).2 = 0 ∧ e_41 = -9) ∨ ((surT (rvM mi ma) (mi 2) nn.toNat).2 ≠ 0 ∧ e_41 = (surT (rvM mi ma) (mi 2) nn.toNat).2) := by
          unfold ntA at q1
          by_cases hz : (surT (rvM mi ma) (mi 2) nn.toNat).2 = 0
          · rw [if_pos hz] at q1; exact Or.inl ⟨hz, q1⟩
          · rw [if_neg hz] at q1; exact Or.inr ⟨hz, q1⟩
        refine z_istore_n [(3, .int (iI e_41)), (0, .ref (q 0)), (1, .int (iI nn)), (2, .int (iI qq))] dX8_surest_44 rfl (by decide) rfl ?_
        refine z_iload_n (j := 3) dX8_surest_45 rfl rfl ?_
        refine z_if_lt (tgt := 53) dX8_surest_46 (by decide) (by omega) (fun c_46 => ?_) (fun c_46 => ?_)
        · refine z_iload_n (j := 0) dX8_surest_53 rfl rfl ?_
          exact z_iret dX8_surest_54 ⟨_, _, (by
      unfold spSurest; rw [if_neg (by omega), if_neg (by rw [hnA]; omega)]
      rcases hse with ⟨w1, w2⟩ | ⟨w1, w2⟩
      · rw [if_pos (show (surT (aR (vM mi ma)) (aP (vM mi ma)) nn.toNat).2 = 0 from w1)]; exact ⟨w2, hv, ho⟩
      · rw [if_neg (show ¬ (surT (aR (vM mi ma)) (aP (vM mi ma)) nn.toNat).2 = 0 from w1), if_pos (by omega)]; exact ⟨w2, hv, ho⟩), rfl, rfl⟩
        · refine z_iload_n (j := 0) dX8_surest_49 rfl rfl ?_
          refine z_if_ge (tgt := 55) dX8_surest_50 (by decide) (by omega) (fun c_50 => ?_) (fun c_50 => ?_)
          · have hTe : e_41 = (surT (rvM mi ma) (mi 2) nn.toNat).2 := by omega
            have hb0 : 0 < bestF (rvM mi ma) e_41.toNat (mi 2) := by rw [hTe]; exact hsr.2.2.2 (by omega)
            refine z_iconst dX8_surest_55 ?_
            refine z_istore [(4, .int (iI 0)), (3, .int (iI e_41)), (0, .ref (q 0)), (1, .int (iI nn)), (2, .int (iI qq))] dX8_surest_56 (by decide) rfl ?_
            refine z_aload_n (j := 2) dX8_surest_58 rfl rfl ?_
            refine z_getf (i := 0) (ci := 8) (k := 2) (v := .int (iI (mi 2))) dX8_surest_59 m_X8_surest_f127 in_X8_surest_X8 rfl (by decide) rfl (by omega) rfl rfl ?_
            refine z_istore [(5, .int (iI (mi 2))), (4, .int (iI 0)), (3, .int (iI e_41)), (0, .ref (q 0)), (1, .int (iI nn)), (2, .int (iI qq))] dX8_surest_62 (by decide) rfl ?_
            refine z_bipush dX8_surest_64 (by decide) ?_
            refine z_istore [(6, .int (iI (-9))), (5, .int (iI (mi 2))), (4, .int (iI 0)), (3, .int (iI e_41)), (0, .ref (q 0)), (1, .int (iI nn)), (2, .int (iI qq))] dX8_surest_66 (by decide) rfl ?_
            refine z_iconst dX8_surest_68 ?_
            refine z_istore [(7, .int (iI 0)), (6, .int (iI (-9))), (5, .int (iI (mi 2))), (4, .int (iI 0)), (3, .int (iI e_41)), (0, .ref (q 0)), (1, .int (iI nn)), (2, .int (iI qq))] dX8_surest_69 (by decide) rfl ?_
            have hl_71 : ∀ (N_71 : Nat) (u : Int) (cw : Int) (tw : Int) (tl : Int), (20 - u).toNat < N_71 → (0 ≤ u ∧ u ≤ qq + 1 ∧ u ≤ e_41) → (4 * cw + tw = sptF (rvM mi ma) e_41.toNat (mi 2) u.toNat) → (0 ≤ tw ∧ tw ≤ 3) → (0 ≤ cw ∧ cw < mi 1) → ((u ≤ qq ∧ tl = -9) ∨ (u = qq + 1 ∧ tl = fstA (rvM mi ma) (e_41.toNat - qq.toNat - 1) (sptF (rvM mi ma) e_41.toNat (mi 2) qq.toNat))) → ZMi l D vwCl (tysC cI cJ cZ cR) 18 q ({ frames := 5, cells := 0, slots := 0, locals := 128 } : Room) cX8_surest 9 RX8 wsX8_surest (some .int) (fun (r : Int32) (g : Nat → va_E) => ∃ (e : Int) (ma' : Nat → Nat → Int), (spSurest (vM mi ma) nn qq e ∧ vM mi ma' = (vM mi ma) ∧ MOk mi ma') ∧ r = iI e ∧ g = (cM cI cJ cZ q mi ma')) p e s m args below meth c (cM cI cJ cZ q mi ma_41) 71 [(7, .int (iI u)), (6, .int (iI tl)), (5, .int (iI tw)), (4, .int (iI cw)), (3, .int (iI e_41)), (0, .ref (q 0)), (1, .int (iI nn)), (2, .int (iI qq))] [] := by
              intro N_71
              induction N_71 with
              | zero => intro u cw tw tl hm; exact absurd hm (Nat.not_lt_zero _)
              | succ N_71 ih_71 =>
                intro u cw tw tl hm_71 hu hcp hp hcw htl
                have hpo := sptF_pos hRM (show 0 ≤ mi 2 ∧ mi 2 < 4 * rN (rvM mi ma) by rw [hnn]; omega) hb0 u.toNat (by omega)
                refine z_iload (j := 0) dX8_surest_71 rfl ?_
                refine z_iload_n (j := 7) dX8_surest_73 rfl rfl ?_
                refine z_icmp_gt (tgt := 166) dX8_surest_74 (by decide) (by omega) (by omega) (fun c_74 => ?_) (fun c_74 => ?_)
                · refine z_iload (j := 1) dX8_surest_166 rfl ?_
                  exact z_iret dX8_surest_168 ⟨_, _, (by
      unfold spSurest; rw [if_neg (by omega), if_neg (by rw [hnA]; omega), if_neg (show ¬ (surT (aR (vM mi ma)) (aP (vM mi ma)) nn.toNat).2 = 0 by show ¬ (surT (rvM mi ma) (mi 2) nn.toNat).2 = 0; omega), if_neg (by omega)]
      refine ⟨?_, hv, ho⟩
      show tl = if qq < (surT (rvM mi ma) (mi 2) nn.toNat).2 then fstA (rvM mi ma) ((surT (rvM mi ma) (mi 2) nn.toNat).2.toNat - qq.toNat - 1) (sptF (rvM mi ma) (surT (rvM mi ma) (mi 2) nn.toNat).2.toNat (mi 2) qq.toNat) else -9
      rw [← hTe]
      rcases htl with ⟨w1, w2⟩ | ⟨w1, w2⟩
      · rw [if_neg (by omega)]; exact w2
      · rw [if_pos (by omega)]; exact w2), rfl, rfl⟩
                · refine z_iload (j := 0) dX8_surest_77 rfl ?_
                  refine z_iload_n (j := 4) dX8_surest_79 rfl rfl ?_
                  refine z_icmp_ge (tgt := 166) dX8_surest_80 (by decide) (by omega) (by omega) (fun c_80 => ?_) (fun c_80 => ?_)
                  · refine z_iload (j := 1) dX8_surest_166 rfl ?_
                    exact z_iret dX8_surest_168 ⟨_, _, (by
      unfold spSurest; rw [if_neg (by omega), if_neg (by rw [hnA]; omega), if_neg (show ¬ (surT (aR (vM mi ma)) (aP (vM mi ma)) nn.toNat).2 = 0 by show ¬ (surT (rvM mi ma) (mi 2) nn.toNat).2 = 0; omega), if_neg (by omega)]
      refine ⟨?_, hv, ho⟩
      show tl = if qq < (surT (rvM mi ma) (mi 2) nn.toNat).2 then fstA (rvM mi ma) ((surT (rvM mi ma) (mi 2) nn.toNat).2.toNat - qq.toNat - 1) (sptF (rvM mi ma) (surT (rvM mi ma) (mi 2) nn.toNat).2.toNat (mi 2) qq.toNat) else -9
      rw [← hTe]
      rcases htl with ⟨w1, w2⟩ | ⟨w1, w2⟩
      · rw [if_neg (by omega)]; exact w2
      · rw [if_pos (by omega)]; exact w2), rfl, rfl⟩
                  · refine z_iconst dX8_surest_83 ?_
                    refine z_istore [(8, .int (iI 0)), (7, .int (iI u)), (6, .int (iI tl)), (5, .int (iI tw)), (4, .int (iI cw)), (3, .int (iI e_41)), (0, .ref (q 0)), (1, .int (iI nn)), (2, .int (iI qq))] dX8_surest_84 (by decide) rfl ?_
                    have hl_86 : ∀ (N_86 : Nat) (a : Int), (6 - a).toNat < N_86 → (0 ≤ a ∧ a ≤ 4) → (∀ b : Int, 0 ≤ b → b < a → byA (rvM mi ma) (bestF (rvM mi ma) (e_41.toNat - u.toNat - 1)) b (sptF (rvM mi ma) e_41.toNat (mi 2) u.toNat) ≠ bestF (rvM mi ma) (e_41.toNat - u.toNat) (sptF (rvM mi ma) e_41.toNat (mi 2) u.toNat)) → ZMi l D vwCl (tysC cI cJ cZ cR) 18 q ({ frames := 5, cells := 0, slots := 0, locals := 128 } : Room) cX8_surest 9 RX8 wsX8_surest (some .int) (fun (r : Int32) (g : Nat → va_E) => ∃ (e : Int) (ma' : Nat → Nat → Int), (spSurest (vM mi ma) nn qq e ∧ vM mi ma' = (vM mi ma) ∧ MOk mi ma') ∧ r = iI e ∧ g = (cM cI cJ cZ q mi ma')) p e s m args below meth c (cM cI cJ cZ q mi ma_41) 86 [(8, .int (iI a)), (7, .int (iI u)), (6, .int (iI tl)), (5, .int (iI tw)), (4, .int (iI cw)), (3, .int (iI e_41)), (0, .ref (q 0)), (1, .int (iI nn)), (2, .int (iI qq))] [] := by
                      intro N_86
                      induction N_86 with
                      | zero => intro a hm; exact absurd hm (Nat.not_lt_zero _)
                      | succ N_86 ih_86 =>
                        intro a hm_86 ha hno
                        have hfi := fstA_is hRM (t := e_41.toNat - u.toNat - 1) hpo.1.1
                        rw [show e_41.toNat - u.toNat - 1 + 1 = e_41.toNat - u.toNat by omega] at hfi
                        have hle : a ≤ fstA (rvM mi ma) (e_41.toNat - u.toNat - 1) (sptF (rvM mi ma) e_41.toNat (mi 2) u.toNat) := fstA_one hRM hpo.1.1 ha (by rw [show e_41.toNat - u.toNat - 1 + 1 = e_41.toNat - u.toNat by omega]; exact hno)
                        have hU0 : (0 : Int) ≤ 10 ^ (e_41.toNat - u.toNat - 1) := Int.pow_nonneg (by omega)
                        have hU1 : (10 : Int) ^ (e_41.toNat - u.toNat - 1) ≤ 10 ^ 11 := pow10_leN (by omega)
                        have hU2 : (10 : Int) ^ 11 = 100000000000 := by decide
                        have hBr : ∀ s : Int, 0 ≤ s → 0 ≤ bestF (rvM mi ma) (e_41.toNat - u.toNat - 1) s ∧ bestF (rvM mi ma) (e_41.toNat - u.toNat - 1) s ≤ 10 ^ (e_41.toNat - u.toNat - 1) := fun s hs => bestF_rng hRM _ s hs
                        have hbz := bestF_rng hRM (e_41.toNat - u.toNat) (sptF (rvM mi ma) e_41.toNat (mi 2) u.toNat) hpo.1.1
                        have hU3 : (10 : Int) ^ (e_41.toNat - u.toNat) ≤ 10 ^ 12 := pow10_leN (by omega)
                        have hU4 : (10 : Int) ^ 12 = 1000000000000 := by decide
                        refine z_aload_n (j := 6) dX8_surest_86 rfl rfl ?_
                        refine z_iload (j := 0) dX8_surest_87 rfl ?_
                        refine z_iload_n (j := 5) dX8_surest_89 rfl rfl ?_
                        refine z_iload (j := 1) dX8_surest_90 rfl ?_
                        refine z_isub dX8_surest_92 ?_
                        refine z_iload (j := 4) dX8_surest_93 rfl ?_
                        refine z_iload (j := 3) dX8_surest_95 rfl ?_
                        refine z_callVl (i := 0) (ci := 8) (As := [.int (iI a), .int (iI (e_41 - u)), .int (iI cw), .int (iI tw)]) (rest := []) (c_X8_bestBy  hq hRy (by omega) (by omega) (by omega) (by omega) (by omega) (by rw [hEy]; exact fun s hs => hT _ s (by omega) hs)) dX8_surest_97 gX8_surest_X8_bestBy rfl cd_X8_bestBy ⟨Nat.le_of_ble_eq_true rfl, Nat.le_of_ble_eq_true rfl⟩ rfl rfl (by omega) rfl rfl rfl (Nat.le_of_ble_eq_true rfl) ⟨Nat.zero_le _, Nat.zero_le _⟩ (fun r_97 g_97 hp_97 => ?_)
                        obtain ⟨⟨e_97, he_97, rfl⟩, rfl⟩ := hp_97
                        rw [hEy, show (e_41 - u).toNat = e_41.toNat - u.toNat by omega, hcp] at he_97
                        have hb1 := byA_rng (B := bestF (rvM mi ma) (e_41.toNat - u.toNat - 1)) hRM hU0 hBr (act := a) hpo.1.1
                        rw [← he_97] at hb1
                        refine z_aload_n (j := 6) dX8_surest_100 rfl rfl ?_
                        refine z_getf (i := 0) (ci := 8) (k := 19) (v := .ref (q 9)) dX8_surest_101 m_X8_surest_f34 in_X8_surest_X8 rfl (by decide) rfl (by omega) rfl rfl ?_
                        refine z_iload_n (j := 5) dX8_surest_104 rfl rfl ?_
                        refine z_iload (j := 1) dX8_surest_105 rfl ?_
                        refine z_isub dX8_surest_107 ?_
                        refine z_iload (j := 4) dX8_surest_108 rfl ?_
                        refine z_iload (j := 3) dX8_surest_110 rfl ?_
                        refine z_callSi (As := [.int (iI (e_41 - u)), .int (iI cw), .int (iI tw)]) (rest := [.ref (q 9), .long (lI e_97)]) (c_X8_placeOf  hq ) dX8_surest_112 gX8_surest_X8_placeOf rfl cd_X8_placeOf ⟨Nat.le_of_ble_eq_true rfl, Nat.le_of_ble_eq_true rfl⟩ rfl rfl rfl (Nat.le_of_ble_eq_true rfl) ⟨Nat.zero_le _, Nat.zero_le _⟩ (fun r_112 g_112 hp_112 => ?_)
                        obtain ⟨⟨_, rfl, rfl⟩, rfl⟩ := hp_112
                        refine z_lald (i := 9) (g := ma_41 9) 1 dX8_surest_115 (by omega) rfl rfl (by omega) (by omega) (by omega) ?_
                        have h115 : ma_41 9 (64 * (e_41 - u) + 4 * cw + tw).toNat = bestF (rvM mi ma) (e_41.toNat - u.toNat) (sptF (rvM mi ma) e_41.toNat (mi 2) u.toNat) := by
                          have g := hT (e_41.toNat - u.toNat) (sptF (rvM mi ma) e_41.toNat (mi 2) u.toNat).toNat (by omega) (by rw [castN hpo.1.1]; exact hpo.1.2)
                          rw [castN hpo.1.1, ← hcp, show 64 * (e_41.toNat - u.toNat) + (4 * cw + tw).toNat = (64 * (e_41 - u) + 4 * cw + tw).toNat by omega, hcp] at g
                          exact g
                        refine z_lcmp dX8_surest_116 (by omega) (by rw [h115]; omega) (fun r_116 hr_116 => ?_)
                        refine z_if_eq (tgt := 126) dX8_surest_117 (by decide) (by omega) (fun c_117 => ?_) (fun c_117 => ?_)
                        · have hfa : a = fstA (rvM mi ma) (e_41.toNat - u.toNat - 1) (sptF (rvM mi ma) e_41.toNat (mi 2) u.toNat) := by
                            rcases Int.lt_or_eq_of_le hle with h | h
                            · exact absurd (show byA (rvM mi ma) (bestF (rvM mi ma) (e_41.toNat - u.toNat - 1)) a (sptF (rvM mi ma) e_41.toNat (mi 2) u.toNat) = bestF (rvM mi ma) (e_41.toNat - u.toNat) (sptF (rvM mi ma) e_41.toNat (mi 2) u.toNat) by rw [← he_97, ← h115]; omega) (hfi.2.2 a ha.1 h)
                            · exact h
                          have hsn : sptF (rvM mi ma) e_41.toNat (mi 2) (u.toNat + 1) = aftA (rvM mi ma) a (sptF (rvM mi ma) e_41.toNat (mi 2) u.toNat) := by rw [sptF, ← hfa]
                          have hpn := sptF_pos hRM (show 0 ≤ mi 2 ∧ mi 2 < 4 * rN (rvM mi ma) by rw [hnn]; omega) hb0 (u.toNat + 1) (by omega)
                          rw [hsn, ← hcp] at hpn
                          have hcan : canB (rvM mi ma) a cw tw = true := by
                            by_cases hq : canB (rvM mi ma) a cw tw = true
                            · exact hq
                            · exact absurd hpn.1.1 (by rw [aftA_no hcw.1 hp hq]; omega)
                          have hay := aftA_yes hcw.1 hp hcan
                          rw [hnn] at hay
                          have hcr := celA_rng (R := rvM mi ma) (act := a) hcw.1 hp (by rw [hnn]; omega)
                          rw [hnn] at hcr
                          have hpr := pacA_rng a tw hp
                          refine z_iload (j := 0) dX8_surest_126 rfl ?_
                          refine z_iload (j := 3) dX8_surest_128 rfl ?_
                          refine z_callSi (As := [.int (iI a), .int (iI tw)]) (rest := []) (c_X8_paceBy  hq (by omega) (by omega)) dX8_surest_130 gX8_surest_X8_paceBy rfl cd_X8_paceBy ⟨Nat.le_of_ble_eq_true rfl, Nat.le_of_ble_eq_true rfl⟩ rfl rfl rfl (Nat.le_of_ble_eq_true rfl) ⟨Nat.zero_le _, Nat.zero_le _⟩ (fun r_130 g_130 hp_130 => ?_)
                          obtain ⟨⟨e_130, he_130, rfl⟩, rfl⟩ := hp_130
                          refine z_istore [(5, .int (iI e_130)), (8, .int (iI a)), (7, .int (iI u)), (6, .int (iI tl)), (4, .int (iI cw)), (3, .int (iI e_41)), (0, .ref (q 0)), (1, .int (iI nn)), (2, .int (iI qq))] dX8_surest_133 (by decide) rfl ?_
                          refine z_aload_n (j := 6) dX8_surest_135 rfl rfl ?_
                          refine z_iload (j := 4) dX8_surest_136 rfl ?_
                          refine z_iload (j := 0) dX8_surest_138 rfl ?_
                          refine z_callVi (i := 0) (ci := 8) (As := [.int (iI cw), .int (iI e_130)]) (rest := []) (c_X8_cellBy  hq hRy (by omega) (by rw [he_130]; exact pacA_rng _ _ hp)) dX8_surest_140 gX8_surest_X8_cellBy rfl cd_X8_cellBy ⟨Nat.le_of_ble_eq_true rfl, Nat.le_of_ble_eq_true rfl⟩ rfl rfl (by omega) rfl rfl rfl (Nat.le_of_ble_eq_true rfl) ⟨Nat.zero_le _, Nat.zero_le _⟩ (fun r_140 g_140 hp_140 => ?_)
                          obtain ⟨⟨e_140, he_140, rfl⟩, rfl⟩ := hp_140
                          refine z_istore [(4, .int (iI e_140)), (5, .int (iI e_130)), (8, .int (iI a)), (7, .int (iI u)), (6, .int (iI tl)), (3, .int (iI e_41)), (0, .ref (q 0)), (1, .int (iI nn)), (2, .int (iI qq))] dX8_surest_143 (by decide) rfl ?_
                          refine z_iload (j := 3) dX8_surest_145 rfl ?_
                          refine z_iload_n (j := 8) dX8_surest_147 rfl rfl ?_
                          refine z_icmp_ne (tgt := 156) dX8_surest_148 (by decide) (by omega) (by omega) (fun c_148 => ?_) (fun c_148 => ?_)
                          · refine z_iload (j := 4) dX8_surest_156 rfl ?_
                            refine z_istore [(6, .int (iI tl)), (4, .int (iI e_140)), (5, .int (iI e_130)), (8, .int (iI a)), (7, .int (iI u)), (3, .int (iI e_41)), (0, .ref (q 0)), (1, .int (iI nn)), (2, .int (iI qq))] dX8_surest_158 (by decide) rfl ?_
                            refine z_iinc (j := 4) [(7, .int (iI (u + 1))), (6, .int (iI tl)), (4, .int (iI e_140)), (5, .int (iI e_130)), (8, .int (iI a)), (3, .int (iI e_41)), (0, .ref (q 0)), (1, .int (iI nn)), (2, .int (iI qq))] dX8_surest_160 rfl (by decide) rfl ?_
                            refine z_goto (tgt := 71) dX8_surest_163 (by decide) ?_
                            exact z_sub [(7, .int (iI (u + 1))), (6, .int (iI tl)), (5, .int (iI e_130)), (4, .int (iI e_140)), (3, .int (iI e_41)), (0, .ref (q 0)), (1, .int (iI nn)), (2, .int (iI qq))] [0, 1, 3, 2, 5, 6, 7, 8] rfl (ih_71 (u + 1) e_140 e_130 tl (by omega) (by omega) (by rw [stepN hu.1, hsn, ← hcp, hay, he_140, he_130]) (by rw [he_130]; exact hpr) (by rw [he_140, he_130]; exact hcr) (by
            first
              | (refine Or.inr ⟨by omega, ?_⟩; rw [hfa, show u = qq by omega])
              | exact Or.inl ⟨by omega, by omega⟩))
                          · refine z_iload (j := 2) dX8_surest_151 rfl ?_
                            refine z_goto (tgt := 158) dX8_surest_153 (by decide) ?_
                            refine z_istore [(6, .int (iI a)), (4, .int (iI e_140)), (5, .int (iI e_130)), (8, .int (iI a)), (7, .int (iI u)), (3, .int (iI e_41)), (0, .ref (q 0)), (1, .int (iI nn)), (2, .int (iI qq))] dX8_surest_158 (by decide) rfl ?_
                            refine z_iinc (j := 4) [(7, .int (iI (u + 1))), (6, .int (iI a)), (4, .int (iI e_140)), (5, .int (iI e_130)), (8, .int (iI a)), (3, .int (iI e_41)), (0, .ref (q 0)), (1, .int (iI nn)), (2, .int (iI qq))] dX8_surest_160 rfl (by decide) rfl ?_
                            refine z_goto (tgt := 71) dX8_surest_163 (by decide) ?_
                            exact z_sub [(7, .int (iI (u + 1))), (6, .int (iI a)), (5, .int (iI e_130)), (4, .int (iI e_140)), (3, .int (iI e_41)), (0, .ref (q 0)), (1, .int (iI nn)), (2, .int (iI qq))] [0, 1, 3, 2, 5, 6, 7, 8] rfl (ih_71 (u + 1) e_140 e_130 a (by omega) (by omega) (by rw [stepN hu.1, hsn, ← hcp, hay, he_140, he_130]) (by rw [he_130]; exact hpr) (by rw [he_140, he_130]; exact hcr) (by
            first
              | (refine Or.inr ⟨by omega, ?_⟩; rw [hfa, show u = qq by omega])
              | exact Or.inl ⟨by omega, by omega⟩))
                        · refine z_iinc (j := 0) [(8, .int (iI (a + 1))), (7, .int (iI u)), (6, .int (iI tl)), (5, .int (iI tw)), (4, .int (iI cw)), (3, .int (iI e_41)), (0, .ref (q 0)), (1, .int (iI nn)), (2, .int (iI qq))] dX8_surest_120 rfl (by decide) rfl ?_
                          refine z_goto (tgt := 86) dX8_surest_123 (by decide) ?_
                          exact z_sub [(8, .int (iI (a + 1))), (7, .int (iI u)), (6, .int (iI tl)), (5, .int (iI tw)), (4, .int (iI cw)), (3, .int (iI e_41)), (0, .ref (q 0)), (1, .int (iI nn)), (2, .int (iI qq))] [0, 1, 2, 3, 4, 5, 6, 7, 8] rfl (ih_86 (a + 1) (by omega) (by have := hfi.2.1; omega) (fun b h1 h2 => by
              by_cases hk : b = a
              · rw [hk, ← he_97, ← h115]; omega
              · exact hno b h1 (by omega)))
                    exact z_sub [(8, .int (iI 0)), (7, .int (iI u)), (6, .int (iI tl)), (5, .int (iI tw)), (4, .int (iI cw)), (3, .int (iI e_41)), (0, .ref (q 0)), (1, .int (iI nn)), (2, .int (iI qq))] [0, 1, 2, 3, 4, 5, 6, 7, 8] rfl (hl_86 _ 0 (Nat.lt_succ_self _) (by omega) (fun b h1 h2 => absurd h2 (by omega)))
            exact z_sub [(7, .int (iI 0)), (6, .int (iI (-9))), (5, .int (iI (mi 2))), (4, .int (iI 0)), (3, .int (iI e_41)), (0, .ref (q 0)), (1, .int (iI nn)), (2, .int (iI qq))] [0, 1, 2, 3, 4, 5, 6, 7] rfl (hl_71 _ 0 0 (mi 2) (-9) (Nat.lt_succ_self _) (by omega) (by show 4 * 0 + mi 2 = mi 2; omega) (hP) (by omega) (Or.inl ⟨by omega, rfl⟩))
          · refine z_iload_n (j := 0) dX8_surest_53 rfl rfl ?_
            exact z_iret dX8_surest_54 ⟨_, _, (by
      unfold spSurest; rw [if_neg (by omega), if_neg (by rw [hnA]; omega)]
      rcases hse with ⟨w1, w2⟩ | ⟨w1, w2⟩
      · rw [if_pos (show (surT (aR (vM mi ma)) (aP (vM mi ma)) nn.toNat).2 = 0 from w1)]; exact ⟨w2, hv, ho⟩
      · rw [if_neg (show ¬ (surT (aR (vM mi ma)) (aP (vM mi ma)) nn.toNat).2 = 0 from w1), if_pos (by omega)]; exact ⟨w2, hv, ho⟩), rfl, rfl⟩
      · refine z_bipush dX8_surest_36 (by decide) ?_
        exact z_iret dX8_surest_38 ⟨_, _, (by unfold spSurest; rw [if_neg (by omega), if_pos (by rw [hnA]; omega)]; exact ⟨rfl, rfl, hO⟩), rfl, rfl⟩
    · refine z_if_ne (tgt := 29) dX8_surest_23 (by decide) (by decide) (fun h => absurd h (by decide)) (fun _ => ?_)
      refine z_bipush dX8_surest_26 (by decide) ?_
      exact z_iret dX8_surest_28 ⟨_, _, (by unfold spSurest; rw [if_pos (by omega)]; exact ⟨rfl, rfl, hO⟩), rfl, rfl⟩
  · refine z_if_eq (tgt := 26) dX8_surest_9 (by decide) (by decide) (fun _ => ?_) (fun h => absurd h (by decide))
    refine z_bipush dX8_surest_26 (by decide) ?_
    exact z_iret dX8_surest_28 ⟨_, _, (by unfold spSurest; rw [if_pos (by omega)]; exact ⟨rfl, rfl, hO⟩), rfl, rfl⟩
theorem m_X8_sure_C220 : Cond.constantLong RX8 220 (lI (12)) ∈ wsX8_sure := List.mem_of_getElem? (i := 1) (by decide +kernel)
theorem m_X8_sure_f75 : Cond.fieldLink RX8 75 "PoleBehindModel" "cells" "I" ∈ wsX8_sure := List.mem_of_getElem? (i := 2) rfl
theorem in_X8_sure_X8 : ∀ w ∈ wsX80, w ∈ wsX8_sure := fun _ h => List.mem_cons_of_mem _ (List.mem_append_right _ h)
theorem m_X8_sure_f34 : Cond.fieldLink RX8 34 "PoleBehindModel" "bestFrom" "[J" ∈ wsX8_sure := List.mem_of_getElem? (i := 3) rfl
theorem m_X8_sure_f127 : Cond.fieldLink RX8 127 "PoleBehindModel" "paceFirst" "I" ∈ wsX8_sure := List.mem_of_getElem? (i := 4) rfl
set_option maxHeartbeats 400000 in
set_option maxRecDepth 100000 in
theorem c_X8_sure {l : Launch} {D : va_G} {cI cJ cZ cR : ClassId} {q : Nat → Nat} {mi : Nat → Int} {ma : Nat → Nat → Int} (hq : qOk 18 q) {nn wh : Int} (hO : MOk mi ma) (hnn2 : -2147483648 ≤ nn ∧ nn < 2147483648) (hwh : -2147483648 ≤ wh ∧ wh < 2147483648) : Ctl l D vwCl (tysC cI cJ cZ cR) 18 q yX8_sure wsX8_sure ({ frames := 5, cells := 0, slots := 0, locals := 128 } : Room) [.ref (q 0), .int (iI nn), .int (iI wh)] (cM cI cJ cZ q mi ma) (fun (r : Int64) (g : Nat → va_E) => ∃ (e : Int) (ma' : Nat → Nat → Int), (spSure (vM mi ma) nn wh e ∧ vM mi ma' = (vM mi ma) ∧ MOk mi ma') ∧ r = lI e ∧ g = (cM cI cJ cZ q mi ma')) := by
  refine Ctl.of (cc := cX8_sure) (nL := 4) (own := RX8) (ret := (some .long)) (by decide) rfl rfl hq (Nat.le_of_ble_eq_true rfl) (fun p e s m args below meth c => ?_)
  obtain ⟨hR, hn2, hQ, hSh, hSn, hHd, hRdg, hfa⟩ := id hO
  obtain ⟨hN, hP, hK, hM, hD, hB⟩ := id hR
  have hRM := MRv_M hR
  have hnn : rN (rvM mi ma) = mi 1 := rfl
  have hnA : rN (aR (vM mi ma)) = mi 1 := rfl
  refine z_iload_n (j := 1) dX8_sure_0 rfl rfl ?_
  refine z_i2l dX8_sure_1 (by omega) ?_
  refine z_lconst (z := 1) dX8_sure_2 (by decide) ?_
  refine z_ldc2 dX8_sure_3 m_X8_sure_C220 ?_
  refine z_callSi (As := [.long (lI nn), .long (lI 1), .long (lI 12)]) (rest := []) (c_X8_in  hq (by omega) (by omega) (by omega)) dX8_sure_6 gX8_sure_X8_in rfl cd_X8_in ⟨Nat.le_of_ble_eq_true rfl, Nat.le_of_ble_eq_true rfl⟩ rfl rfl rfl (Nat.le_of_ble_eq_true rfl) ⟨Nat.zero_le _, Nat.zero_le _⟩ (fun r_6 g_6 hp_6 => ?_)
  obtain ⟨⟨h_6, rfl⟩ | ⟨h_6, rfl⟩, rfl⟩ := hp_6
  · refine z_if_eq (tgt := 29) dX8_sure_9 (by decide) (by decide) (fun h => absurd h (by decide)) (fun _ => ?_)
    refine z_iload_n (j := 2) dX8_sure_12 rfl rfl ?_
    refine z_i2l dX8_sure_13 (by omega) ?_
    refine z_lconst (z := 0) dX8_sure_14 (by decide) ?_
    refine z_lconst (z := 1) dX8_sure_15 (by decide) ?_
    refine z_callSi (As := [.long (lI wh), .long (lI 0), .long (lI 1)]) (rest := []) (c_X8_in  hq (by omega) (by omega) (by omega)) dX8_sure_16 gX8_sure_X8_in rfl cd_X8_in ⟨Nat.le_of_ble_eq_true rfl, Nat.le_of_ble_eq_true rfl⟩ rfl rfl rfl (Nat.le_of_ble_eq_true rfl) ⟨Nat.zero_le _, Nat.zero_le _⟩ (fun r_16 g_16 hp_16 => ?_)
    obtain ⟨⟨h_16, rfl⟩ | ⟨h_16, rfl⟩, rfl⟩ := hp_16
    · refine z_if_eq (tgt := 29) dX8_sure_19 (by decide) (by decide) (fun h => absurd h (by decide)) (fun _ => ?_)
      refine z_aload_n (j := 0) dX8_sure_22 rfl rfl ?_
      refine z_getf (i := 0) (ci := 8) (k := 1) (v := .int (iI (mi 1))) dX8_sure_23 m_X8_sure_f75 in_X8_sure_X8 rfl (by decide) rfl (by omega) rfl rfl ?_
      refine z_if_ne (tgt := 33) dX8_sure_26 (by decide) (by omega) (fun c_26 => ?_) (fun c_26 => ?_)
      · refine z_aload_n (j := 0) dX8_sure_33 rfl rfl ?_
        refine z_iload_n (j := 1) dX8_sure_34 rfl rfl ?_
        refine z_callVi (i := 0) (ci := 8) (As := [.int (iI nn)]) (rest := []) (c_X8_surestTurns  hq hR (by omega) (by omega)) dX8_sure_35 gX8_sure_X8_surestTurns rfl cd_X8_surestTurns ⟨Nat.le_of_ble_eq_true rfl, Nat.le_of_ble_eq_true rfl⟩ rfl rfl (by omega) rfl rfl rfl (Nat.le_of_ble_eq_true rfl) ⟨Nat.zero_le _, Nat.zero_le _⟩ (fun r_35 g_35 hp_35 => ?_)
        obtain ⟨e_35, ma_35, he_35, rfl, rfl⟩ := hp_35
        obtain ⟨q1, hT, hK9⟩ := he_35
        have hRy := MRv_9 hR hK9
        have hEy := rvM_9 (mi := mi) hK9
        have hsr := surT_rng hRM (p := mi 2) hP.1 nn.toNat (by omega)
        have hv : vM mi ma_35 = vM mi ma := vM_9 hK9
        have ho : MOk mi ma_35 := MOk_9 hO hK9
        have hse : ((surT (rvM mi ma) (mi 2) nn.toNat).2 = 0 ∧ e_35 = -9) ∨ ((surT (rvM mi ma) (mi 2) nn.toNat).2 ≠ 0 ∧ e_35 = (surT (rvM mi ma) (mi 2) nn.toNat).2) := by
          unfold ntA at q1
          by_cases hz : (surT (rvM mi ma) (mi 2) nn.toNat).2 = 0
          · rw [if_pos hz] at q1; exact Or.inl ⟨hz, q1⟩
          · rw [if_neg hz] at q1; exact Or.inr ⟨hz, q1⟩
        refine z_istore_n [(3, .int (iI e_35)), (0, .ref (q 0)), (1, .int (iI nn)), (2, .int (iI wh))] dX8_sure_38 rfl (by decide) rfl ?_
        refine z_iload_n (j := 0) dX8_sure_39 rfl rfl ?_
        refine z_if_ge (tgt := 48) dX8_sure_40 (by decide) (by omega) (fun c_40 => ?_) (fun c_40 => ?_)
        · refine z_aload_n (j := 1) dX8_sure_48 rfl rfl ?_
          refine z_getf (i := 0) (ci := 8) (k := 19) (v := .ref (q 9)) dX8_sure_49 m_X8_sure_f34 in_X8_sure_X8 rfl (by decide) rfl (by omega) rfl rfl ?_
          refine z_iload_n (j := 0) dX8_sure_52 rfl rfl ?_
          refine z_iconst dX8_sure_53 ?_
          refine z_aload_n (j := 1) dX8_sure_54 rfl rfl ?_
          refine z_getf (i := 0) (ci := 8) (k := 2) (v := .int (iI (mi 2))) dX8_sure_55 m_X8_sure_f127 in_X8_sure_X8 rfl (by decide) rfl (by omega) rfl rfl ?_
          refine z_callSi (As := [.int (iI e_35), .int (iI 0), .int (iI (mi 2))]) (rest := [.ref (q 9)]) (c_X8_placeOf  hq ) dX8_sure_58 gX8_sure_X8_placeOf rfl cd_X8_placeOf ⟨Nat.le_of_ble_eq_true rfl, Nat.le_of_ble_eq_true rfl⟩ rfl rfl rfl (Nat.le_of_ble_eq_true rfl) ⟨Nat.zero_le _, Nat.zero_le _⟩ (fun r_58 g_58 hp_58 => ?_)
          obtain ⟨⟨_, rfl, rfl⟩, rfl⟩ := hp_58
          refine z_lald (i := 9) (g := ma_35 9) 1 dX8_sure_61 (by omega) rfl rfl (by omega) (by omega) (by omega) ?_
          have hTe : e_35 = (surT (rvM mi ma) (mi 2) nn.toNat).2 := by omega
          have h61 : ma_35 9 (64 * e_35 + 4 * 0 + (mi 2)).toNat = bestF (rvM mi ma) e_35.toNat (mi 2) := by
            have g := hT e_35.toNat (mi 2).toNat (by omega) (by rw [hnn]; omega)
            rw [castN hP.1, show 64 * e_35.toNat + (mi 2).toNat = (64 * e_35 + 4 * 0 + mi 2).toNat by omega] at g
            exact g
          have hbr := bestF_rng hRM e_35.toNat (mi 2) hP.1
          have h1012 := pow10_le (show e_35.toNat ≤ 18 by omega)
          have h100 : (0 : Int) < 10 ^ e_35.toNat := Int.pow_pos (by decide)
          refine z_iload_n (j := 0) dX8_sure_62 rfl rfl ?_
          refine z_callSl (As := [.int (iI e_35)]) (rest := [.long (lI (ma_35 9 (64 * e_35 + 4 * 0 + (mi 2)).toNat))]) (c_X8_tens  hq (by omega)) dX8_sure_63 gX8_sure_X8_tens rfl cd_X8_tens ⟨Nat.le_of_ble_eq_true rfl, Nat.le_of_ble_eq_true rfl⟩ rfl rfl rfl (Nat.le_of_ble_eq_true rfl) ⟨Nat.zero_le _, Nat.zero_le _⟩ (fun r_63 g_63 hp_63 => ?_)
          obtain ⟨⟨_, rfl, rfl⟩, rfl⟩ := hp_63
          refine z_iload_n (j := 3) dX8_sure_66 rfl rfl ?_
          refine z_callSl (As := [.long (lI (ma_35 9 (64 * e_35 + 4 * 0 + (mi 2)).toNat)), .long (lI (10 ^ e_35.toNat)), .int (iI wh)]) (rest := []) (c_X8_told  hq (by rw [h61]; omega) (by omega) (by omega)) dX8_sure_67 gX8_sure_X8_told rfl cd_X8_told ⟨Nat.le_of_ble_eq_true rfl, Nat.le_of_ble_eq_true rfl⟩ rfl rfl rfl (Nat.le_of_ble_eq_true rfl) ⟨Nat.zero_le _, Nat.zero_le _⟩ (fun r_67 g_67 hp_67 => ?_)
          obtain ⟨⟨e_67, he_67, rfl⟩, rfl⟩ := hp_67
          exact z_lret dX8_sure_70 ⟨_, _, (by
      unfold spSure; rw [if_neg (by rw [hnA]; omega)]
      rcases hse with ⟨w1, w2⟩ | ⟨w1, w2⟩
      · first
          | (rw [if_pos (show (surT (aR (vM mi ma)) (aP (vM mi ma)) nn.toNat).2 = 0 from w1)]; exact ⟨rfl, hv, ho⟩)
          | exact absurd w2 (by omega)
      · first
          | (rw [if_neg (show ¬ (surT (aR (vM mi ma)) (aP (vM mi ma)) nn.toNat).2 = 0 from w1)]; refine ⟨?_, hv, ho⟩; rw [he_67, h61, hTe]; rfl)
          | exact absurd w2 (by omega)), rfl, rfl⟩
        · refine z_iload_n (j := 3) dX8_sure_43 rfl rfl ?_
          refine z_i2l dX8_sure_44 (by omega) ?_
          refine z_goto (tgt := 70) dX8_sure_45 (by decide) ?_
          exact z_lret dX8_sure_70 ⟨_, _, (by
      unfold spSure; rw [if_neg (by rw [hnA]; omega)]
      rcases hse with ⟨w1, w2⟩ | ⟨w1, w2⟩
      · first
          | (rw [if_pos (show (surT (aR (vM mi ma)) (aP (vM mi ma)) nn.toNat).2 = 0 from w1)]; exact ⟨rfl, hv, ho⟩)
          | exact absurd w2 (by omega)
      · first
          | (rw [if_neg (show ¬ (surT (aR (vM mi ma)) (aP (vM mi ma)) nn.toNat).2 = 0 from w1)]; refine ⟨?_, hv, ho⟩; rw [he_67, h61, hTe]; rfl)
          | exact absurd w2 (by omega)), rfl, rfl⟩
      · refine z_callSl (As := []) (rest := []) (c_X8_lost  hq ) dX8_sure_29 gX8_sure_X8_lost rfl cd_X8_lost ⟨Nat.le_of_ble_eq_true rfl, Nat.le_of_ble_eq_true rfl⟩ rfl rfl rfl (Nat.le_of_ble_eq_true rfl) ⟨Nat.zero_le _, Nat.zero_le _⟩ (fun r_29 g_29 hp_29 => ?_)
        obtain ⟨⟨_, rfl, rfl⟩, rfl⟩ := hp_29
        exact z_lret dX8_sure_32 ⟨_, _, (by unfold spSure; first | (rw [if_pos (by omega)]; exact ⟨rfl, rfl, hO⟩) | (rw [if_pos (by rw [hnA]; omega)]; exact ⟨rfl, rfl, hO⟩)), rfl, rfl⟩
    · refine z_if_eq (tgt := 29) dX8_sure_19 (by decide) (by decide) (fun _ => ?_) (fun h => absurd h (by decide))
      refine z_callSl (As := []) (rest := []) (c_X8_lost  hq ) dX8_sure_29 gX8_sure_X8_lost rfl cd_X8_lost ⟨Nat.le_of_ble_eq_true rfl, Nat.le_of_ble_eq_true rfl⟩ rfl rfl rfl (Nat.le_of_ble_eq_true rfl) ⟨Nat.zero_le _, Nat.zero_le _⟩ (fun r_29 g_29 hp_29 => ?_)
      obtain ⟨⟨_, rfl, rfl⟩, rfl⟩ := hp_29
      exact z_lret dX8_sure_32 ⟨_, _, (by unfold spSure; first | (rw [if_pos (by omega)]; exact ⟨rfl, rfl, hO⟩) | (rw [if_pos (by rw [hnA]; omega)]; exact ⟨rfl, rfl, hO⟩)), rfl, rfl⟩
  · refine z_if_eq (tgt := 29) dX8_sure_9 (by decide) (by decide) (fun _ => ?_) (fun h => absurd h (by decide))
    refine z_callSl (As := []) (rest := []) (c_X8_lost  hq ) dX8_sure_29 gX8_sure_X8_lost rfl cd_X8_lost ⟨Nat.le_of_ble_eq_true rfl, Nat.le_of_ble_eq_true rfl⟩ rfl rfl rfl (Nat.le_of_ble_eq_true rfl) ⟨Nat.zero_le _, Nat.zero_le _⟩ (fun r_29 g_29 hp_29 => ?_)
    obtain ⟨⟨_, rfl, rfl⟩, rfl⟩ := hp_29
    exact z_lret dX8_sure_32 ⟨_, _, (by unfold spSure; first | (rw [if_pos (by omega)]; exact ⟨rfl, rfl, hO⟩) | (rw [if_pos (by rw [hnA]; omega)]; exact ⟨rfl, rfl, hO⟩)), rfl, rfl⟩
