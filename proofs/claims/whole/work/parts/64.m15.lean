theorem m_X8_river_C118 : Cond.constantLong RX8 118 (lI (2)) ∈ wsX8_river := List.mem_of_getElem? (i := 1) (by decide +kernel)
theorem cd_X8_readsRiver : yX8_readsRiver.cls = RX8 ∧ yX8_readsRiver.cls ≠ "java/lang/invoke/MethodHandle" ∧ yX8_readsRiver.cls ≠ "java/lang/invoke/VarHandle" ∧ (parseMethodDescriptor yX8_readsRiver.desc).map (fun d => d.parameters.length) = some 2 := ⟨rfl, by decide +kernel, by decide +kernel, by decide +kernel⟩
theorem m_X8_river_f96 : Cond.fieldLink RX8 96 "PoleBehindModel" "readPace" "I" ∈ wsX8_river := List.mem_of_getElem? (i := 3) rfl
theorem in_X8_river_X8 : ∀ w ∈ wsX80, w ∈ wsX8_river := fun _ h => List.mem_cons_of_mem _ (List.mem_append_right _ h)
theorem m_X8_river_f127 : Cond.fieldLink RX8 127 "PoleBehindModel" "paceFirst" "I" ∈ wsX8_river := List.mem_of_getElem? (i := 4) rfl
theorem m_X8_river_f89 : Cond.fieldLink RX8 89 "PoleBehindModel" "readCells" "I" ∈ wsX8_river := List.mem_of_getElem? (i := 5) rfl
theorem m_X8_river_f75 : Cond.fieldLink RX8 75 "PoleBehindModel" "cells" "I" ∈ wsX8_river := List.mem_of_getElem? (i := 6) rfl
theorem m_X8_river_f130 : Cond.fieldLink RX8 130 "PoleBehindModel" "readings" "I" ∈ wsX8_river := List.mem_of_getElem? (i := 15) rfl
theorem m_X8_river_f7 : Cond.fieldLink RX8 7 "PoleBehindModel" "kindOf" "[I" ∈ wsX8_river := List.mem_of_getElem? (i := 7) rfl
theorem m_X8_river_f22 : Cond.fieldLink RX8 22 "PoleBehindModel" "readKind" "[I" ∈ wsX8_river := List.mem_of_getElem? (i := 8) rfl
theorem m_X8_river_f13 : Cond.fieldLink RX8 13 "PoleBehindModel" "mudOf" "[I" ∈ wsX8_river := List.mem_of_getElem? (i := 9) rfl
theorem m_X8_river_f25 : Cond.fieldLink RX8 25 "PoleBehindModel" "readMud" "[I" ∈ wsX8_river := List.mem_of_getElem? (i := 10) rfl
theorem m_X8_river_f16 : Cond.fieldLink RX8 16 "PoleBehindModel" "deepIn" "[I" ∈ wsX8_river := List.mem_of_getElem? (i := 11) rfl
theorem m_X8_river_f28 : Cond.fieldLink RX8 28 "PoleBehindModel" "readDeep" "[I" ∈ wsX8_river := List.mem_of_getElem? (i := 12) rfl
theorem m_X8_river_f19 : Cond.fieldLink RX8 19 "PoleBehindModel" "bridgeOver" "[I" ∈ wsX8_river := List.mem_of_getElem? (i := 13) rfl
theorem m_X8_river_f31 : Cond.fieldLink RX8 31 "PoleBehindModel" "readBridge" "[I" ∈ wsX8_river := List.mem_of_getElem? (i := 14) rfl
theorem m_X8_river_f82 : Cond.fieldLink RX8 82 "PoleBehindModel" "readAt" "I" ∈ wsX8_river := List.mem_of_getElem? (i := 2) rfl
set_option maxHeartbeats 400000 in
set_option maxRecDepth 100000 in
theorem c_X8_river {l : Launch} {D : va_G} {cI cJ cZ cR : ClassId} {q : Nat → Nat} {mi : Nat → Int} {ma : Nat → Nat → Int} (hq : qOk 18 q) {z ln i nn : Int} (hO : MOk mi ma) (hz : -2147483648 ≤ z ∧ z < 2147483648) (hl : -2147483648 ≤ ln ∧ ln < 2147483648) (hi : -2147483648 ≤ i ∧ i < 2147483648) (hnn : -2147483648 ≤ nn ∧ nn < 2147483648) : Cti l D vwCl (tysC cI cJ cZ cR) 18 q yX8_river wsX8_river ({ frames := 4, cells := 0, slots := 0, locals := 98 } : Room) [.ref (q 0), .int (iI z), .int (iI ln), .int (iI i), .int (iI nn)] (cM cI cJ cZ q mi ma) (fun (r : Int32) (g : Nat → va_E) => ∃ (e : Int) (mi' : Nat → Int) (ma' : Nat → Nat → Int), (spRiver (vM mi ma) z ln i nn e (vM mi' ma') ∧ MOk mi' ma') ∧ r = iI e ∧ g = (cM cI cJ cZ q mi' ma')) := by
  refine Cti.of (cc := cX8_river) (nL := 7) (own := RX8) (ret := (some .int)) (by decide) rfl rfl hq (Nat.le_of_ble_eq_true rfl) (fun p e s m args below meth c => ?_)
  obtain ⟨hR, hn2, hQ, hSh, hSn, hHd, hRdg, hfa⟩ := id hO
  obtain ⟨hN, hP, hK, hM, hD, hB⟩ := id hR
  have hRM := MRv_M hR
  have hnn : rN (rvM mi ma) = mi 1 := rfl
  have hnA : rN (aR (vM mi ma)) = mi 1 := rfl
  refine z_iload_n (j := 1) dX8_river_0 rfl rfl ?_
  refine z_callSi (As := [.int (iI z)]) (rest := []) (c_X8_noSheet  hq (by omega)) dX8_river_1 gX8_river_X8_noSheet rfl cd_X8_noSheet ⟨Nat.le_of_ble_eq_true rfl, Nat.le_of_ble_eq_true rfl⟩ rfl rfl rfl (Nat.le_of_ble_eq_true rfl) ⟨Nat.zero_le _, Nat.zero_le _⟩ (fun r_1 g_1 hp_1 => ?_)
  obtain ⟨⟨h_1, rfl⟩ | ⟨h_1, rfl⟩, rfl⟩ := hp_1
  · refine z_if_eq (tgt := 13) dX8_river_4 (by decide) (by decide) (fun h => absurd h (by decide)) (fun _ => ?_)
    refine z_aload_n (j := 0) dX8_river_7 rfl rfl ?_
    refine z_iconst dX8_river_8 ?_
    refine z_callVi (i := 0) (ci := 8) (As := [.int (iI (-1))]) (rest := []) (c_X8_refused  hq ) dX8_river_9 gX8_river_X8_refused rfl cd_X8_refused ⟨Nat.le_of_ble_eq_true rfl, Nat.le_of_ble_eq_true rfl⟩ rfl rfl (by omega) rfl rfl rfl (Nat.le_of_ble_eq_true rfl) ⟨Nat.zero_le _, Nat.zero_le _⟩ (fun r_9 g_9 hp_9 => ?_)
    obtain ⟨e_9, mi_9, he_9, rfl, rfl⟩ := hp_9
    exact z_iret dX8_river_12 ⟨_, _, _, (by unfold spRiver; rw [if_pos (by omega), he_9.2]; exact ⟨⟨he_9.1, vM_fa⟩, MOk_fa hO (by omega)⟩), rfl, rfl⟩
  · refine z_if_eq (tgt := 13) dX8_river_4 (by decide) (by decide) (fun _ => ?_) (fun h => absurd h (by decide))
    refine z_iload_n (j := 2) dX8_river_13 rfl rfl ?_
    refine z_i2l dX8_river_14 (by omega) ?_
    refine z_lconst (z := 0) dX8_river_15 (by decide) ?_
    refine z_ldc2 dX8_river_16 m_X8_river_C118 ?_
    refine z_callSi (As := [.long (lI ln), .long (lI 0), .long (lI 2)]) (rest := []) (c_X8_in  hq (by omega) (by omega) (by omega)) dX8_river_19 gX8_river_X8_in rfl cd_X8_in ⟨Nat.le_of_ble_eq_true rfl, Nat.le_of_ble_eq_true rfl⟩ rfl rfl rfl (Nat.le_of_ble_eq_true rfl) ⟨Nat.zero_le _, Nat.zero_le _⟩ (fun r_19 g_19 hp_19 => ?_)
    obtain ⟨⟨h_19, rfl⟩ | ⟨h_19, rfl⟩, rfl⟩ := hp_19
    · refine z_if_ne (tgt := 32) dX8_river_22 (by decide) (by decide) (fun _ => ?_) (fun h => absurd h (by decide))
      refine z_aload_n (j := 0) dX8_river_32 rfl rfl ?_
      refine z_iload_n (j := 1) dX8_river_33 rfl rfl ?_
      refine z_iload_n (j := 2) dX8_river_34 rfl rfl ?_
      refine z_iload_n (j := 3) dX8_river_35 rfl rfl ?_
      refine z_iload (j := 4) dX8_river_36 rfl ?_
      refine z_i2l dX8_river_38 (by omega) ?_
      refine z_callVi (i := 0) (ci := 8) (As := [.int (iI z), .int (iI ln), .int (iI i), .long (lI nn)]) (rest := []) (c_X8_cellsBarred  hq hO (by omega) (by omega) (by omega) (by omega)) dX8_river_39 gX8_river_X8_cellsBarred rfl cd_X8_cellsBarred ⟨Nat.le_of_ble_eq_true rfl, Nat.le_of_ble_eq_true rfl⟩ rfl rfl (by omega) rfl rfl rfl (Nat.le_of_ble_eq_true rfl) ⟨Nat.zero_le _, Nat.zero_le _⟩ (fun r_39 g_39 hp_39 => ?_)
      obtain ⟨e_39, mi_39, he_39, rfl, rfl⟩ := hp_39
      have hcr := chkC_rng (A := vM mi ma) (j := z.toNat) (l := ln) (i := i) (n := nn)
      obtain ⟨g1, g2, g3⟩ := he_39
      refine z_istore [(5, .int (iI e_39)), (0, .ref (q 0)), (1, .int (iI z)), (2, .int (iI ln)), (3, .int (iI i)), (4, .int (iI nn))] dX8_river_42 (by decide) rfl ?_
      refine z_iload (j := 0) dX8_river_44 rfl ?_
      refine z_if_ge (tgt := 52) dX8_river_46 (by decide) (by omega) (fun c_46 => ?_) (fun c_46 => ?_)
      · have hc0 : (chkCells (vM mi ma) z.toNat ln i nn).1 = 0 := by omega
        have hin := chkC_0in hc0
        have hle : aLen (vM mi ma) z.toNat = if ma 14 z.toNat < 0 then 0 else ma 14 z.toNat := lenM_in (by omega)
        have hla : aLan (vM mi ma) z.toNat = if ma 14 z.toNat < 0 then -1 else ma 15 z.toNat := lanM_in (by omega)
        have hnn0 : ¬ ma 14 z.toNat < 0 := fun h => hin.1 (by rw [hla, if_pos h])
        rw [if_neg hnn0] at hle
        have hfit : 0 ≤ i ∧ i + nn ≤ ma 14 z.toNat := ⟨hin.2.2.2.1, by rw [← hle]; exact hin.2.2.2.2⟩
        have hnn1 := hin.2.2.1
        have hsz := (hSh z.toNat).1
        have hGa : ∀ k : Nat, (k : Int) < nn → actG (vM mi ma) z.toNat i k = ma 16 ((60 * z + i).toNat + k) := fun k hk => by
          rw [actG_m (n := nn) (by omega) hfit hk, show (60 * z + i).toNat + k = 60 * z.toNat + (i.toNat + k) by omega]
        refine z_mem (show cM cI cJ cZ q mi_39 ma = cM cI cJ cZ q mi ma by rw [g2 hc0]) ?_
        refine z_aload_n (j := 1) dX8_river_52 rfl rfl ?_
        refine z_bipush dX8_river_53 (by decide) ?_
        refine z_iload_n (j := 2) dX8_river_55 rfl rfl ?_
        refine z_imul dX8_river_56 ?_
        refine z_iload_n (j := 4) dX8_river_57 rfl rfl ?_
        refine z_iadd dX8_river_58 ?_
        refine z_iload (j := 5) dX8_river_59 rfl ?_
        refine z_callVi (i := 0) (ci := 8) (As := [.int (iI ((60 * z) + i)), .int (iI nn)]) (rest := []) (c_X8_readsRiver (G := actG (vM mi ma) z.toNat i) hq hSn hGa (by omega) hQ) dX8_river_61 gX8_river_X8_readsRiver rfl cd_X8_readsRiver ⟨Nat.le_of_ble_eq_true rfl, Nat.le_of_ble_eq_true rfl⟩ rfl rfl (by omega) rfl rfl rfl (Nat.le_of_ble_eq_true rfl) ⟨Nat.zero_le _, Nat.zero_le _⟩ (fun r_61 g_61 hp_61 => ?_)
        obtain ⟨mi_61, ma_61, ⟨h_61, rfl⟩ | ⟨h_61, rfl⟩, rfl⟩ := hp_61
        · refine z_if_ne (tgt := 79) dX8_river_64 (by decide) (by decide) (fun _ => ?_) (fun h => absurd h (by decide))
          obtain ⟨⟨st, fme⟩, f9, f8, ffr, ffa, fq⟩ := h_61
          refine z_aload_n (j := 1) dX8_river_79 rfl rfl ?_
          refine z_aload_n (j := 1) dX8_river_80 rfl rfl ?_
          refine z_getf (i := 0) (ci := 8) (k := 8) (v := .int (iI (mi_61 8))) dX8_river_81 m_X8_river_f96 in_X8_river_X8 rfl (by decide) rfl (by omega) rfl rfl ?_
          refine z_putf (i := 0) (ci := 8) (k := 2) (cM cI cJ cZ q (va_up mi_61 2 (mi_61 8)) ma_61) dX8_river_84 m_X8_river_f127 in_X8_river_X8 rfl (by decide) rfl (by omega) rfl tyX8_ok nmX8 rfl rfl rfl (Nat.le_of_ble_eq_true rfl) lm_2 ?_
          refine z_aload_n (j := 1) dX8_river_87 rfl rfl ?_
          refine z_aload_n (j := 1) dX8_river_88 rfl rfl ?_
          refine z_getf (i := 0) (ci := 8) (k := 9) (v := .int (iI (mi_61 9))) dX8_river_89 m_X8_river_f89 in_X8_river_X8 rfl (by decide) rfl (by omega) rfl rfl ?_
          refine z_putf (i := 0) (ci := 8) (k := 1) (cM cI cJ cZ q (va_up (va_up mi_61 2 (mi_61 8)) 1 (mi_61 9)) ma_61) dX8_river_92 m_X8_river_f75 in_X8_river_X8 rfl (by decide) rfl (by omega) rfl tyX8_ok nmX8 rfl rfl rfl (Nat.le_of_ble_eq_true rfl) lm_1 ?_
          refine z_iconst dX8_river_95 ?_
          refine z_istore [(6, .int (iI 0)), (5, .int (iI e_39)), (0, .ref (q 0)), (1, .int (iI z)), (2, .int (iI ln)), (3, .int (iI i)), (4, .int (iI nn))] dX8_river_96 (by decide) rfl ?_
          have hl_98 : ∀ (N_98 : Nat) (u : Int) (ya : Nat → Nat → Int), (20 - u).toNat < N_98 → (0 ≤ u ∧ u ≤ mi_61 9) → (∀ k, k ≠ 1 → k ≠ 2 → k ≠ 3 → k ≠ 4 → ya k = ma_61 k) → (cpOk u ya ma_61) → (rgOk ya) → ZMi l D vwCl (tysC cI cJ cZ cR) 18 q ({ frames := 4, cells := 0, slots := 0, locals := 98 } : Room) cX8_river 7 RX8 wsX8_river (some .int) (fun (r : Int32) (g : Nat → va_E) => ∃ (e : Int) (mi' : Nat → Int) (ma' : Nat → Nat → Int), (spRiver (vM mi ma) z ln i nn e (vM mi' ma') ∧ MOk mi' ma') ∧ r = iI e ∧ g = (cM cI cJ cZ q mi' ma')) p e s m args below meth c (cM cI cJ cZ q (va_up (va_up mi_61 2 (mi_61 8)) 1 (mi_61 9)) ya) 98 [(6, .int (iI u)), (5, .int (iI e_39)), (0, .ref (q 0)), (1, .int (iI z)), (2, .int (iI ln)), (3, .int (iI i)), (4, .int (iI nn))] [] := by
            intro N_98
            induction N_98 with
            | zero => intro u ya hm; exact absurd hm (Nat.not_lt_zero _)
            | succ N_98 ih_98 =>
              intro u ya hm_98 hu hyo hyc hyr
              have q5 := hyo 5 (by decide) (by decide) (by decide) (by decide)
              have q6 := hyo 6 (by decide) (by decide) (by decide) (by decide)
              have q7 := hyo 7 (by decide) (by decide) (by decide) (by decide)
              have q8 := hyo 8 (by decide) (by decide) (by decide) (by decide)
              have w5 := fq.1 u.toNat
              have w6 := fq.2.1 u.toNat
              have w7 := fq.2.2.1 u.toNat
              have w8 := fq.2.2.2 u.toNat
              rw [← q5] at w5
              rw [← q6] at w6
              rw [← q7] at w7
              rw [← q8] at w8
              refine z_iload (j := 0) dX8_river_98 rfl ?_
              refine z_aload_n (j := 2) dX8_river_100 rfl rfl ?_
              refine z_getf (i := 0) (ci := 8) (k := 1) (v := .int (iI (mi_61 9))) dX8_river_101 m_X8_river_f75 in_X8_river_X8 rfl (by decide) rfl (by omega) rfl rfl ?_
              refine z_icmp_ge (tgt := 169) dX8_river_104 (by decide) (by omega) (by omega) (fun c_104 => ?_) (fun c_104 => ?_)
              · refine z_aload_n (j := 2) dX8_river_169 rfl rfl ?_
                refine z_iconst dX8_river_170 ?_
                refine z_putf (i := 0) (ci := 8) (k := 22) (cM cI cJ cZ q (va_up (va_up (va_up mi_61 2 (mi_61 8)) 1 (mi_61 9)) 22 0) ya) dX8_river_171 m_X8_river_f130 in_X8_river_X8 rfl (by decide) rfl (by omega) rfl tyX8_ok nmX8 rfl rfl rfl (Nat.le_of_ble_eq_true rfl) lm_22 ?_
                refine z_aload_n (j := 2) dX8_river_174 rfl rfl ?_
                refine z_aload_n (j := 2) dX8_river_175 rfl rfl ?_
                refine z_getf (i := 0) (ci := 8) (k := 1) (v := .int (iI (mi_61 9))) dX8_river_176 m_X8_river_f75 in_X8_river_X8 rfl (by decide) rfl (by omega) rfl rfl ?_
                refine z_callVi (i := 0) (ci := 8) (As := [.int (iI (mi_61 9))]) (rest := []) (c_X8_refused  hq ) dX8_river_179 gX8_river_X8_refused rfl cd_X8_refused ⟨Nat.le_of_ble_eq_true rfl, Nat.le_of_ble_eq_true rfl⟩ rfl rfl (by omega) rfl rfl rfl (Nat.le_of_ble_eq_true rfl) ⟨Nat.zero_le _, Nat.zero_le _⟩ (fun r_179 g_179 hp_179 => ?_)
                obtain ⟨e_179, mi_179, he_179, rfl, rfl⟩ := hp_179
                exact z_iret dX8_river_182 ⟨_, _, _, (by
      obtain ⟨τ, hτ, hE⟩ := mend_sim msE_0 fme
      have hun : u = mi_61 9 := by omega
      rw [hun] at hyc
      unfold spRiver; rw [if_neg (by omega), if_neg (by omega), if_neg (not_not_intro hc0)]
      exact ⟨⟨-9, τ, hτ, Or.inr ⟨rfl, he_179.1.trans (msE_rvg (hE rfl)).2.2.symm, vM_new ffr ffa (hE rfl) he_179.2 hyo hyc⟩⟩, MOk_new hO ffr ffa fq f9 f8 he_179.2 hyo hyr⟩), rfl, rfl⟩
              · refine z_aload_n (j := 2) dX8_river_107 rfl rfl ?_
                refine z_getf (i := 0) (ci := 8) (k := 3) (v := .ref (q 1)) dX8_river_108 m_X8_river_f7 in_X8_river_X8 rfl (by decide) rfl (by omega) rfl rfl ?_
                refine z_iload (j := 0) dX8_river_111 rfl ?_
                refine z_aload_n (j := 2) dX8_river_113 rfl rfl ?_
                refine z_getf (i := 0) (ci := 8) (k := 10) (v := .ref (q 5)) dX8_river_114 m_X8_river_f22 in_X8_river_X8 rfl (by decide) rfl (by omega) rfl rfl ?_
                refine z_iload (j := 0) dX8_river_117 rfl ?_
                refine z_iald (i := 5) (g := ya 5) 0 dX8_river_119 (by omega) rfl rfl (by omega) (by omega) (by omega) ?_
                refine z_iast (i := 1) (g := ya 1) 0 (cM cI cJ cZ q (va_up (va_up mi_61 2 (mi_61 8)) 1 (mi_61 9)) (va_up ya 1 (va_up (ya 1) u.toNat (ya 5 u.toNat)))) dX8_river_120 (by omega) rfl rfl (by omega) (by omega) (by omega) la_1 ?_
                refine z_aload_n (j := 2) dX8_river_121 rfl rfl ?_
                refine z_getf (i := 0) (ci := 8) (k := 4) (v := .ref (q 2)) dX8_river_122 m_X8_river_f13 in_X8_river_X8 rfl (by decide) rfl (by omega) rfl rfl ?_
                refine z_iload (j := 0) dX8_river_125 rfl ?_
                refine z_aload_n (j := 2) dX8_river_127 rfl rfl ?_
                refine z_getf (i := 0) (ci := 8) (k := 11) (v := .ref (q 6)) dX8_river_128 m_X8_river_f25 in_X8_river_X8 rfl (by decide) rfl (by omega) rfl rfl ?_
                refine z_iload (j := 0) dX8_river_131 rfl ?_
                refine z_iald (i := 6) (g := ya 6) 0 dX8_river_133 (by omega) rfl rfl (by omega) (by omega) (by omega) ?_
                refine z_iast (i := 2) (g := ya 2) 0 (cM cI cJ cZ q (va_up (va_up mi_61 2 (mi_61 8)) 1 (mi_61 9)) (va_up (va_up ya 1 (va_up (ya 1) u.toNat (ya 5 u.toNat))) 2 (va_up ((va_up ya 1 (va_up (ya 1) u.toNat (ya 5 u.toNat))) 2) u.toNat (ya 6 u.toNat)))) dX8_river_134 (by omega) rfl rfl (by omega) (by omega) (by omega) la_2 ?_
                refine z_aload_n (j := 2) dX8_river_135 rfl rfl ?_
                refine z_getf (i := 0) (ci := 8) (k := 5) (v := .ref (q 3)) dX8_river_136 m_X8_river_f16 in_X8_river_X8 rfl (by decide) rfl (by omega) rfl rfl ?_
                refine z_iload (j := 0) dX8_river_139 rfl ?_
                refine z_aload_n (j := 2) dX8_river_141 rfl rfl ?_
                refine z_getf (i := 0) (ci := 8) (k := 12) (v := .ref (q 7)) dX8_river_142 m_X8_river_f28 in_X8_river_X8 rfl (by decide) rfl (by omega) rfl rfl ?_
                refine z_iload (j := 0) dX8_river_145 rfl ?_
                refine z_iald (i := 7) (g := ya 7) 0 dX8_river_147 (by omega) rfl rfl (by omega) (by omega) (by omega) ?_
                refine z_iast (i := 3) (g := ya 3) 0 (cM cI cJ cZ q (va_up (va_up mi_61 2 (mi_61 8)) 1 (mi_61 9)) (va_up (va_up (va_up ya 1 (va_up (ya 1) u.toNat (ya 5 u.toNat))) 2 (va_up ((va_up ya 1 (va_up (ya 1) u.toNat (ya 5 u.toNat))) 2) u.toNat (ya 6 u.toNat))) 3 (va_up ((va_up (va_up ya 1 (va_up (ya 1) u.toNat (ya 5 u.toNat))) 2 (va_up ((va_up ya 1 (va_up (ya 1) u.toNat (ya 5 u.toNat))) 2) u.toNat (ya 6 u.toNat))) 3) u.toNat (ya 7 u.toNat)))) dX8_river_148 (by omega) rfl rfl (by omega) (by omega) (by omega) la_3 ?_
                refine z_aload_n (j := 2) dX8_river_149 rfl rfl ?_
                refine z_getf (i := 0) (ci := 8) (k := 6) (v := .ref (q 4)) dX8_river_150 m_X8_river_f19 in_X8_river_X8 rfl (by decide) rfl (by omega) rfl rfl ?_
                refine z_iload (j := 0) dX8_river_153 rfl ?_
                refine z_aload_n (j := 2) dX8_river_155 rfl rfl ?_
                refine z_getf (i := 0) (ci := 8) (k := 13) (v := .ref (q 8)) dX8_river_156 m_X8_river_f31 in_X8_river_X8 rfl (by decide) rfl (by omega) rfl rfl ?_
                refine z_iload (j := 0) dX8_river_159 rfl ?_
                refine z_iald (i := 8) (g := ya 8) 0 dX8_river_161 (by omega) rfl rfl (by omega) (by omega) (by omega) ?_
                refine z_iast (i := 4) (g := ya 4) 0 (cM cI cJ cZ q (va_up (va_up mi_61 2 (mi_61 8)) 1 (mi_61 9)) (va_up (va_up (va_up (va_up ya 1 (va_up (ya 1) u.toNat (ya 5 u.toNat))) 2 (va_up ((va_up ya 1 (va_up (ya 1) u.toNat (ya 5 u.toNat))) 2) u.toNat (ya 6 u.toNat))) 3 (va_up ((va_up (va_up ya 1 (va_up (ya 1) u.toNat (ya 5 u.toNat))) 2 (va_up ((va_up ya 1 (va_up (ya 1) u.toNat (ya 5 u.toNat))) 2) u.toNat (ya 6 u.toNat))) 3) u.toNat (ya 7 u.toNat))) 4 (va_up ((va_up (va_up (va_up ya 1 (va_up (ya 1) u.toNat (ya 5 u.toNat))) 2 (va_up ((va_up ya 1 (va_up (ya 1) u.toNat (ya 5 u.toNat))) 2) u.toNat (ya 6 u.toNat))) 3 (va_up ((va_up (va_up ya 1 (va_up (ya 1) u.toNat (ya 5 u.toNat))) 2 (va_up ((va_up ya 1 (va_up (ya 1) u.toNat (ya 5 u.toNat))) 2) u.toNat (ya 6 u.toNat))) 3) u.toNat (ya 7 u.toNat))) 4) u.toNat (ya 8 u.toNat)))) dX8_river_162 (by omega) rfl rfl (by omega) (by omega) (by omega) la_4 ?_
                refine z_iinc (j := 0) [(6, .int (iI (u + 1))), (5, .int (iI e_39)), (0, .ref (q 0)), (1, .int (iI z)), (2, .int (iI ln)), (3, .int (iI i)), (4, .int (iI nn))] dX8_river_163 rfl (by decide) rfl ?_
                refine z_goto (tgt := 98) dX8_river_166 (by decide) ?_
                exact z_sub [(6, .int (iI (u + 1))), (5, .int (iI e_39)), (0, .ref (q 0)), (1, .int (iI z)), (2, .int (iI ln)), (3, .int (iI i)), (4, .int (iI nn))] [0, 1, 2, 3, 4, 5, 6] rfl (ih_98 (u + 1) (va_up (va_up (va_up (va_up ya 1 (va_up (ya 1) u.toNat (ya 5 u.toNat))) 2 (va_up ((va_up ya 1 (va_up (ya 1) u.toNat (ya 5 u.toNat))) 2) u.toNat (ya 6 u.toNat))) 3 (va_up ((va_up (va_up ya 1 (va_up (ya 1) u.toNat (ya 5 u.toNat))) 2 (va_up ((va_up ya 1 (va_up (ya 1) u.toNat (ya 5 u.toNat))) 2) u.toNat (ya 6 u.toNat))) 3) u.toNat (ya 7 u.toNat))) 4 (va_up ((va_up (va_up (va_up ya 1 (va_up (ya 1) u.toNat (ya 5 u.toNat))) 2 (va_up ((va_up ya 1 (va_up (ya 1) u.toNat (ya 5 u.toNat))) 2) u.toNat (ya 6 u.toNat))) 3 (va_up ((va_up (va_up ya 1 (va_up (ya 1) u.toNat (ya 5 u.toNat))) 2 (va_up ((va_up ya 1 (va_up (ya 1) u.toNat (ya 5 u.toNat))) 2) u.toNat (ya 6 u.toNat))) 3) u.toNat (ya 7 u.toNat))) 4) u.toNat (ya 8 u.toNat))) (by omega) (by omega) (fun k a1 a2 a3 a4 => by rw [up_n a4, up_n a3, up_n a2, up_n a1]; exact hyo k a1 a2 a3 a4) (fun j hj => by
            show va_up (ya 1) u.toNat (ya 5 u.toNat) j = ma_61 5 j ∧ va_up (ya 2) u.toNat (ya 6 u.toNat) j = ma_61 6 j ∧ va_up (ya 3) u.toNat (ya 7 u.toNat) j = ma_61 7 j ∧ va_up (ya 4) u.toNat (ya 8 u.toNat) j = ma_61 8 j
            by_cases hq : j = u.toNat
            · rw [hq, up_s, up_s, up_s, up_s, q5, q6, q7, q8]; exact ⟨rfl, rfl, rfl, rfl⟩
            · rw [up_n hq, up_n hq, up_n hq, up_n hq]; exact hyc j (by omega)) (⟨up_rng hyr.1 w5, up_rng hyr.2.1 w6, up_bit hyr.2.2.1 w7, up_bit hyr.2.2.2 w8⟩))
          exact z_sub [(6, .int (iI 0)), (5, .int (iI e_39)), (0, .ref (q 0)), (1, .int (iI z)), (2, .int (iI ln)), (3, .int (iI i)), (4, .int (iI nn))] [0, 1, 2, 3, 4, 5, 6] rfl (hl_98 _ 0 ma_61 (Nat.lt_succ_self _) (by omega) (fun _ _ _ _ _ => rfl) (fun j hj => absurd hj (by omega)) (by rw [rgOk, ffa 1 (by decide) (by decide) (by decide) (by decide), ffa 2 (by decide) (by decide) (by decide) (by decide), ffa 3 (by decide) (by decide) (by decide) (by decide), ffa 4 (by decide) (by decide) (by decide) (by decide)]; exact ⟨hK, hM, hD, hB⟩))
        · refine z_if_ne (tgt := 79) dX8_river_64 (by decide) (by decide) (fun h => absurd h (by decide)) (fun _ => ?_)
          obtain ⟨⟨f7, fme⟩, ffr, ffa, fq⟩ := h_61
          refine z_aload_n (j := 1) dX8_river_67 rfl rfl ?_
          refine z_bipush dX8_river_68 (by decide) ?_
          refine z_aload_n (j := 1) dX8_river_70 rfl rfl ?_
          refine z_getf (i := 0) (ci := 8) (k := 7) (v := .int (iI (mi_61 7))) dX8_river_71 m_X8_river_f82 in_X8_river_X8 rfl (by decide) rfl (by omega) rfl rfl ?_
          refine z_isub dX8_river_74 ?_
          refine z_callVi (i := 0) (ci := 8) (As := [.int (iI ((-100) - (mi_61 7)))]) (rest := []) (c_X8_refused  hq ) dX8_river_75 gX8_river_X8_refused rfl cd_X8_refused ⟨Nat.le_of_ble_eq_true rfl, Nat.le_of_ble_eq_true rfl⟩ rfl rfl (by omega) rfl rfl rfl (Nat.le_of_ble_eq_true rfl) ⟨Nat.zero_le _, Nat.zero_le _⟩ (fun r_75 g_75 hp_75 => ?_)
          obtain ⟨e_75, mi_75, he_75, rfl, rfl⟩ := hp_75
          exact z_iret dX8_river_78 ⟨_, _, _, (by
      obtain ⟨τ, hτ, -⟩ := mend_sim msE_0 (fme msZ)
      unfold spRiver; rw [if_neg (by omega), if_neg (by omega), if_neg (not_not_intro hc0), he_75.2]
      exact ⟨⟨mi_61 7, τ, hτ, Or.inl ⟨by omega, he_75.1, vM_wk ffr ffa⟩⟩, MOk_wk hO ffr ffa fq (by omega)⟩), rfl, rfl⟩
      · refine z_iload (j := 0) dX8_river_49 rfl ?_
        exact z_iret dX8_river_51 ⟨_, _, _, (by
      have hne : (chkCells (vM mi ma) z.toNat ln i nn).1 ≠ 0 := by omega
      unfold spRiver; rw [if_neg (by omega), if_neg (by omega), if_pos hne, g3 hne]
      exact ⟨⟨g1, vM_fa⟩, MOk_fa hO chkC_f⟩), rfl, rfl⟩
    · refine z_if_ne (tgt := 32) dX8_river_22 (by decide) (by decide) (fun h => absurd h (by decide)) (fun _ => ?_)
      refine z_aload_n (j := 0) dX8_river_25 rfl rfl ?_
      refine z_bipush dX8_river_26 (by decide) ?_
      refine z_callVi (i := 0) (ci := 8) (As := [.int (iI (-2))]) (rest := []) (c_X8_refused  hq ) dX8_river_28 gX8_river_X8_refused rfl cd_X8_refused ⟨Nat.le_of_ble_eq_true rfl, Nat.le_of_ble_eq_true rfl⟩ rfl rfl (by omega) rfl rfl rfl (Nat.le_of_ble_eq_true rfl) ⟨Nat.zero_le _, Nat.zero_le _⟩ (fun r_28 g_28 hp_28 => ?_)
      obtain ⟨e_28, mi_28, he_28, rfl, rfl⟩ := hp_28
      exact z_iret dX8_river_31 ⟨_, _, _, (by unfold spRiver; rw [if_neg (by omega), if_pos (by omega), he_28.2]; exact ⟨⟨he_28.1, vM_fa⟩, MOk_fa hO (by omega)⟩), rfl, rfl⟩
