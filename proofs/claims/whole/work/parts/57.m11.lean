theorem m_X8_shareBarred_C118 : Cond.constantLong RX8 118 (lI (2)) ∈ wsX8_shareBarred := List.mem_of_getElem? (i := 1) (by decide +kernel)
theorem m_X8_shareBarred_C239 : Cond.constantLong RX8 239 (lI (9)) ∈ wsX8_shareBarred := List.mem_of_getElem? (i := 2) (by decide +kernel)
theorem m_X8_shareBarred_C241 : Cond.constantLong RX8 241 (lI (1000000000)) ∈ wsX8_shareBarred := List.mem_of_getElem? (i := 3) (by decide +kernel)
theorem m_X8_shareBarred_f153 : Cond.fieldLink RX8 153 "PoleBehindModel" "firstWrong" "I" ∈ wsX8_shareBarred := List.mem_of_getElem? (i := 4) rfl
theorem in_X8_shareBarred_X8 : ∀ w ∈ wsX80, w ∈ wsX8_shareBarred := fun _ h => List.mem_cons_of_mem _ (List.mem_append_right _ h)
set_option maxHeartbeats 400000 in
set_option maxRecDepth 100000 in
theorem c_X8_shareBarred {l : Launch} {D : va_G} {cI cJ cZ cR : ClassId} {q : Nat → Nat} {mi : Nat → Int} {ma : Nat → Nat → Int} (hq : qOk 18 q) {cc z ln i nn up : Int} (hO : MOk mi ma) (hc : -2147483648 ≤ cc ∧ cc < 2147483648) (hz : -2147483648 ≤ z ∧ z < 2147483648) (hl : -2147483648 ≤ ln ∧ ln < 2147483648) (hi : -2147483648 ≤ i ∧ i < 2147483648) (hnn : -2147483648 ≤ nn ∧ nn < 2147483648) (hup : -2147483648 ≤ up ∧ up < 2147483648) : Cti l D vwCl (tysC cI cJ cZ cR) 18 q yX8_shareBarred wsX8_shareBarred ({ frames := 4, cells := 0, slots := 0, locals := 88 } : Room) [.ref (q 0), .int (iI cc), .int (iI z), .int (iI ln), .int (iI i), .int (iI nn), .int (iI up)] (cM cI cJ cZ q mi ma) (fun (r : Int32) (g : Nat → va_E) => ∃ (e : Int) (mi' : Nat → Int), (e = (chkFor (vM mi ma) cc z ln i nn up).1 ∧ mi' 0 = (chkFor (vM mi ma) cc z ln i nn up).2 ∧ ∀ k, k ≠ 0 → k ≠ 14 → k ≠ 15 → k ≠ 16 → k ≠ 17 → k ≠ 18 → mi' k = mi k) ∧ r = iI e ∧ g = (cM cI cJ cZ q mi' ma)) := by
  refine Cti.of (cc := cX8_shareBarred) (nL := 8) (own := RX8) (ret := (some .int)) (by decide) rfl rfl hq (Nat.le_of_ble_eq_true rfl) (fun p e s m args below meth c => ?_)
  obtain ⟨hR, hn2, hQ, hSh, hSn, hHd, hRdg, hfa⟩ := id hO
  obtain ⟨hN, hP, hK, hM, hD, hB⟩ := id hR
  have hRM := MRv_M hR
  have hnn : rN (rvM mi ma) = mi 1 := rfl
  have hnA : rN (aR (vM mi ma)) = mi 1 := rfl
  refine z_aload_n (j := 0) dX8_shareBarred_0 rfl rfl ?_
  refine z_iload_n (j := 1) dX8_shareBarred_1 rfl rfl ?_
  refine z_callVi (i := 0) (ci := 8) (As := [.int (iI cc)]) (rest := []) (c_X8_noPlace  hq hR (by omega)) dX8_shareBarred_2 gX8_shareBarred_X8_noPlace rfl cd_X8_noPlace ⟨Nat.le_of_ble_eq_true rfl, Nat.le_of_ble_eq_true rfl⟩ rfl rfl (by omega) rfl rfl rfl (Nat.le_of_ble_eq_true rfl) ⟨Nat.zero_le _, Nat.zero_le _⟩ (fun r_2 g_2 hp_2 => ?_)
  obtain ⟨⟨h_2, rfl⟩ | ⟨h_2, rfl⟩, rfl⟩ := hp_2
  · refine z_if_ne (tgt := 15) dX8_shareBarred_5 (by decide) (by decide) (fun _ => ?_) (fun h => absurd h (by decide))
    refine z_aload_n (j := 0) dX8_shareBarred_15 rfl rfl ?_
    refine z_iconst dX8_shareBarred_16 ?_
    refine z_callVi (i := 0) (ci := 8) (As := [.int (iI (-1))]) (rest := []) (c_X8_refused  hq ) dX8_shareBarred_17 gX8_shareBarred_X8_refused rfl cd_X8_refused ⟨Nat.le_of_ble_eq_true rfl, Nat.le_of_ble_eq_true rfl⟩ rfl rfl (by omega) rfl rfl rfl (Nat.le_of_ble_eq_true rfl) ⟨Nat.zero_le _, Nat.zero_le _⟩ (fun r_17 g_17 hp_17 => ?_)
    obtain ⟨e_17, mi_17, he_17, rfl, rfl⟩ := hp_17
    exact z_iret dX8_shareBarred_20 ⟨_, _, (by unfold chkFor; rw [if_pos (by rw [hnA]; omega), he_17.2]; exact ⟨he_17.1, up_s, fun k h0 _ _ _ _ _ => up_n h0⟩), rfl, rfl⟩
  · refine z_if_ne (tgt := 15) dX8_shareBarred_5 (by decide) (by decide) (fun h => absurd h (by decide)) (fun _ => ?_)
    refine z_iload_n (j := 2) dX8_shareBarred_8 rfl rfl ?_
    refine z_callSi (As := [.int (iI z)]) (rest := []) (c_X8_noSheet  hq (by omega)) dX8_shareBarred_9 gX8_shareBarred_X8_noSheet rfl cd_X8_noSheet ⟨Nat.le_of_ble_eq_true rfl, Nat.le_of_ble_eq_true rfl⟩ rfl rfl rfl (Nat.le_of_ble_eq_true rfl) ⟨Nat.zero_le _, Nat.zero_le _⟩ (fun r_9 g_9 hp_9 => ?_)
    obtain ⟨⟨h_9, rfl⟩ | ⟨h_9, rfl⟩, rfl⟩ := hp_9
    · refine z_if_eq (tgt := 21) dX8_shareBarred_12 (by decide) (by decide) (fun h => absurd h (by decide)) (fun _ => ?_)
      refine z_aload_n (j := 0) dX8_shareBarred_15 rfl rfl ?_
      refine z_iconst dX8_shareBarred_16 ?_
      refine z_callVi (i := 0) (ci := 8) (As := [.int (iI (-1))]) (rest := []) (c_X8_refused  hq ) dX8_shareBarred_17 gX8_shareBarred_X8_refused rfl cd_X8_refused ⟨Nat.le_of_ble_eq_true rfl, Nat.le_of_ble_eq_true rfl⟩ rfl rfl (by omega) rfl rfl rfl (Nat.le_of_ble_eq_true rfl) ⟨Nat.zero_le _, Nat.zero_le _⟩ (fun r_17 g_17 hp_17 => ?_)
      obtain ⟨e_17, mi_17, he_17, rfl, rfl⟩ := hp_17
      exact z_iret dX8_shareBarred_20 ⟨_, _, (by unfold chkFor; rw [if_pos (by rw [hnA]; omega), he_17.2]; exact ⟨he_17.1, up_s, fun k h0 _ _ _ _ _ => up_n h0⟩), rfl, rfl⟩
    · refine z_if_eq (tgt := 21) dX8_shareBarred_12 (by decide) (by decide) (fun _ => ?_) (fun h => absurd h (by decide))
      refine z_iload_n (j := 3) dX8_shareBarred_21 rfl rfl ?_
      refine z_i2l dX8_shareBarred_22 (by omega) ?_
      refine z_lconst (z := 0) dX8_shareBarred_23 (by decide) ?_
      refine z_ldc2 dX8_shareBarred_24 m_X8_shareBarred_C118 ?_
      refine z_callSi (As := [.long (lI ln), .long (lI 0), .long (lI 2)]) (rest := []) (c_X8_in  hq (by omega) (by omega) (by omega)) dX8_shareBarred_27 gX8_shareBarred_X8_in rfl cd_X8_in ⟨Nat.le_of_ble_eq_true rfl, Nat.le_of_ble_eq_true rfl⟩ rfl rfl rfl (Nat.le_of_ble_eq_true rfl) ⟨Nat.zero_le _, Nat.zero_le _⟩ (fun r_27 g_27 hp_27 => ?_)
      obtain ⟨⟨h_27, rfl⟩ | ⟨h_27, rfl⟩, rfl⟩ := hp_27
      · refine z_if_eq (tgt := 59) dX8_shareBarred_30 (by decide) (by decide) (fun h => absurd h (by decide)) (fun _ => ?_)
        refine z_iload (j := 5) dX8_shareBarred_33 rfl ?_
        refine z_i2l dX8_shareBarred_35 (by omega) ?_
        refine z_lconst (z := 0) dX8_shareBarred_36 (by decide) ?_
        refine z_ldc2 dX8_shareBarred_37 m_X8_shareBarred_C239 ?_
        refine z_callSi (As := [.long (lI nn), .long (lI 0), .long (lI 9)]) (rest := []) (c_X8_in  hq (by omega) (by omega) (by omega)) dX8_shareBarred_40 gX8_shareBarred_X8_in rfl cd_X8_in ⟨Nat.le_of_ble_eq_true rfl, Nat.le_of_ble_eq_true rfl⟩ rfl rfl rfl (Nat.le_of_ble_eq_true rfl) ⟨Nat.zero_le _, Nat.zero_le _⟩ (fun r_40 g_40 hp_40 => ?_)
        obtain ⟨⟨h_40, rfl⟩ | ⟨h_40, rfl⟩, rfl⟩ := hp_40
        · refine z_if_eq (tgt := 59) dX8_shareBarred_43 (by decide) (by decide) (fun h => absurd h (by decide)) (fun _ => ?_)
          refine z_iload (j := 6) dX8_shareBarred_46 rfl ?_
          refine z_i2l dX8_shareBarred_48 (by omega) ?_
          refine z_lconst (z := 0) dX8_shareBarred_49 (by decide) ?_
          refine z_ldc2 dX8_shareBarred_50 m_X8_shareBarred_C241 ?_
          refine z_callSi (As := [.long (lI up), .long (lI 0), .long (lI 1000000000)]) (rest := []) (c_X8_in  hq (by omega) (by omega) (by omega)) dX8_shareBarred_53 gX8_shareBarred_X8_in rfl cd_X8_in ⟨Nat.le_of_ble_eq_true rfl, Nat.le_of_ble_eq_true rfl⟩ rfl rfl rfl (Nat.le_of_ble_eq_true rfl) ⟨Nat.zero_le _, Nat.zero_le _⟩ (fun r_53 g_53 hp_53 => ?_)
          obtain ⟨⟨h_53, rfl⟩ | ⟨h_53, rfl⟩, rfl⟩ := hp_53
          · refine z_if_ne (tgt := 66) dX8_shareBarred_56 (by decide) (by decide) (fun _ => ?_) (fun h => absurd h (by decide))
            refine z_aload_n (j := 0) dX8_shareBarred_66 rfl rfl ?_
            refine z_iload_n (j := 2) dX8_shareBarred_67 rfl rfl ?_
            refine z_iload_n (j := 3) dX8_shareBarred_68 rfl rfl ?_
            refine z_iload (j := 4) dX8_shareBarred_69 rfl ?_
            refine z_iload (j := 5) dX8_shareBarred_71 rfl ?_
            refine z_callVi (i := 0) (ci := 8) (As := [.int (iI z), .int (iI ln), .int (iI i), .int (iI nn)]) (rest := []) (c_X8_actsBarred  hq hO (by omega) (by omega) (by omega) (by omega)) dX8_shareBarred_73 gX8_shareBarred_X8_actsBarred rfl cd_X8_actsBarred ⟨Nat.le_of_ble_eq_true rfl, Nat.le_of_ble_eq_true rfl⟩ rfl rfl (by omega) rfl rfl rfl (Nat.le_of_ble_eq_true rfl) ⟨Nat.zero_le _, Nat.zero_le _⟩ (fun r_73 g_73 hp_73 => ?_)
            obtain ⟨e_73, mi_73, he_73, rfl, rfl⟩ := hp_73
            have hcr := chkA_rng (A := vM mi ma) (j := z.toNat) (l := ln) (i := i) (n := nn)
            refine z_istore [(7, .int (iI e_73)), (0, .ref (q 0)), (1, .int (iI cc)), (2, .int (iI z)), (3, .int (iI ln)), (4, .int (iI i)), (5, .int (iI nn)), (6, .int (iI up))] dX8_shareBarred_76 (by decide) rfl ?_
            refine z_iload (j := 0) dX8_shareBarred_78 rfl ?_
            refine z_if_ge (tgt := 86) dX8_shareBarred_80 (by decide) (by omega) (fun c_80 => ?_) (fun c_80 => ?_)
            · have hca : (chkActs (vM mi ma) z.toNat ln i nn).1 = 0 := by have := chkA_rng (A := vM mi ma) (j := z.toNat) (l := ln) (i := i) (n := nn); omega
              obtain ⟨k2, k6, k7, k8⟩ := actsM (by omega) hca
              have hs14 := (hSh z.toNat).1
              have hmi : mi_73 = va_up mi 0 0 := by rw [he_73.2, chk_0.2 hca]
              have hwr := run_wr (A := vM mi ma) (j := z.toNat) (i := i) (nn := nn) (by omega)
              have hRy : MRv mi_73 ma := by rw [hmi]; exact MRv_eq (up_n (by decide)) (up_n (by decide)) rfl rfl rfl rfl hR
              have hRe : rvM mi_73 ma = rvM mi ma := by rw [hmi]; exact rvM_eq (up_n (by decide)) rfl rfl rfl rfl
              have h2e : mi_73 2 = mi 2 := by rw [hmi]; exact up_n (by decide)
              have h1e : mi_73 1 = mi 1 := by rw [hmi]; exact up_n (by decide)
              refine z_aload_n (j := 1) dX8_shareBarred_86 rfl rfl ?_
              refine z_bipush dX8_shareBarred_87 (by decide) ?_
              refine z_iload_n (j := 3) dX8_shareBarred_89 rfl rfl ?_
              refine z_imul dX8_shareBarred_90 ?_
              refine z_iload (j := 5) dX8_shareBarred_91 rfl ?_
              refine z_iadd dX8_shareBarred_93 ?_
              refine z_iload (j := 6) dX8_shareBarred_94 rfl ?_
              refine z_callVv (i := 0) (ci := 8) (As := [.int (iI ((60 * z) + i)), .int (iI nn)]) (rest := []) (c_X8_goPlan  hq hRy (by omega) (by omega) k8) dX8_shareBarred_96 gX8_shareBarred_X8_goPlan rfl cd_X8_goPlan ⟨Nat.le_of_ble_eq_true rfl, Nat.le_of_ble_eq_true rfl⟩ rfl rfl (by omega) rfl rfl rfl (Nat.le_of_ble_eq_true rfl) ⟨Nat.zero_le _, Nat.zero_le _⟩ (fun g_96 hp_96 => ?_)
              obtain ⟨mi_96, he_96, rfl⟩ := hp_96
              rw [hRe, h2e, runM k7 (by omega)] at he_96
              obtain ⟨w16, w1, wf⟩ := he_96
              have w16b : mi_96 16 = (runA (vM mi ma) z.toNat i nn).2 := w16
              have wff : ∀ k, k ≠ 0 → k ≠ 14 → k ≠ 15 → k ≠ 16 → k ≠ 17 → k ≠ 18 → mi_96 k = mi k := fun k h0 h1 h2 h3 h4 h5 => (wf k h1 h2 h3 h4 h5).trans (by rw [hmi]; exact up_n h0)
              refine z_aload_n (j := 1) dX8_shareBarred_99 rfl rfl ?_
              refine z_aload_n (j := 1) dX8_shareBarred_100 rfl rfl ?_
              refine z_getf (i := 0) (ci := 8) (k := 16) (v := .int (iI (mi_96 16))) dX8_shareBarred_101 m_X8_shareBarred_f153 in_X8_shareBarred_X8 rfl (by decide) rfl (by omega) rfl rfl ?_
              refine z_if_lt (tgt := 117) dX8_shareBarred_104 (by decide) (by omega) (fun c_104 => ?_) (fun c_104 => ?_)
              · refine z_iconst dX8_shareBarred_117 ?_
                refine z_callVi (i := 0) (ci := 8) (As := [.int (iI 0)]) (rest := []) (c_X8_refused  hq ) dX8_shareBarred_118 gX8_shareBarred_X8_refused rfl cd_X8_refused ⟨Nat.le_of_ble_eq_true rfl, Nat.le_of_ble_eq_true rfl⟩ rfl rfl (by omega) rfl rfl rfl (Nat.le_of_ble_eq_true rfl) ⟨Nat.zero_le _, Nat.zero_le _⟩ (fun r_118 g_118 hp_118 => ?_)
                obtain ⟨e_118, mi_118, he_118, rfl, rfl⟩ := hp_118
                exact z_iret dX8_shareBarred_121 ⟨_, _, (by
      unfold chkFor; rw [if_neg (by rw [hnA]; omega), if_neg (by omega), if_neg (by omega), he_118.2]
      first
        | (rw [if_pos (by omega)]; exact ⟨by rw [he_118.1, w16b], up_s, fun k h0 h1 h2 h3 h4 h5 => by rw [up_n h0]; exact wff k h0 h1 h2 h3 h4 h5⟩)
        | (rw [if_neg (by omega)]; exact ⟨he_118.1, up_s, fun k h0 h1 h2 h3 h4 h5 => by rw [up_n h0]; exact wff k h0 h1 h2 h3 h4 h5⟩)), rfl, rfl⟩
              · refine z_bipush dX8_shareBarred_107 (by decide) ?_
                refine z_aload_n (j := 1) dX8_shareBarred_109 rfl rfl ?_
                refine z_getf (i := 0) (ci := 8) (k := 16) (v := .int (iI (mi_96 16))) dX8_shareBarred_110 m_X8_shareBarred_f153 in_X8_shareBarred_X8 rfl (by decide) rfl (by omega) rfl rfl ?_
                refine z_isub dX8_shareBarred_113 ?_
                refine z_goto (tgt := 118) dX8_shareBarred_114 (by decide) ?_
                refine z_callVi (i := 0) (ci := 8) (As := [.int (iI ((-100) - (mi_96 16)))]) (rest := []) (c_X8_refused  hq ) dX8_shareBarred_118 gX8_shareBarred_X8_refused rfl cd_X8_refused ⟨Nat.le_of_ble_eq_true rfl, Nat.le_of_ble_eq_true rfl⟩ rfl rfl (by omega) rfl rfl rfl (Nat.le_of_ble_eq_true rfl) ⟨Nat.zero_le _, Nat.zero_le _⟩ (fun r_118 g_118 hp_118 => ?_)
                obtain ⟨e_118, mi_118, he_118, rfl, rfl⟩ := hp_118
                exact z_iret dX8_shareBarred_121 ⟨_, _, (by
      unfold chkFor; rw [if_neg (by rw [hnA]; omega), if_neg (by omega), if_neg (by omega), he_118.2]
      first
        | (rw [if_pos (by omega)]; exact ⟨by rw [he_118.1, w16b], up_s, fun k h0 h1 h2 h3 h4 h5 => by rw [up_n h0]; exact wff k h0 h1 h2 h3 h4 h5⟩)
        | (rw [if_neg (by omega)]; exact ⟨he_118.1, up_s, fun k h0 h1 h2 h3 h4 h5 => by rw [up_n h0]; exact wff k h0 h1 h2 h3 h4 h5⟩)), rfl, rfl⟩
            · refine z_iload (j := 0) dX8_shareBarred_83 rfl ?_
              exact z_iret dX8_shareBarred_85 ⟨_, _, (by unfold chkFor; rw [if_neg (by rw [hnA]; omega), if_neg (by omega), if_pos (by omega), he_73.2]; exact ⟨he_73.1, up_s, fun k h0 _ _ _ _ _ => up_n h0⟩), rfl, rfl⟩
          · refine z_if_ne (tgt := 66) dX8_shareBarred_56 (by decide) (by decide) (fun h => absurd h (by decide)) (fun _ => ?_)
            refine z_aload_n (j := 0) dX8_shareBarred_59 rfl rfl ?_
            refine z_bipush dX8_shareBarred_60 (by decide) ?_
            refine z_callVi (i := 0) (ci := 8) (As := [.int (iI (-2))]) (rest := []) (c_X8_refused  hq ) dX8_shareBarred_62 gX8_shareBarred_X8_refused rfl cd_X8_refused ⟨Nat.le_of_ble_eq_true rfl, Nat.le_of_ble_eq_true rfl⟩ rfl rfl (by omega) rfl rfl rfl (Nat.le_of_ble_eq_true rfl) ⟨Nat.zero_le _, Nat.zero_le _⟩ (fun r_62 g_62 hp_62 => ?_)
            obtain ⟨e_62, mi_62, he_62, rfl, rfl⟩ := hp_62
            exact z_iret dX8_shareBarred_65 ⟨_, _, (by unfold chkFor; rw [if_neg (by rw [hnA]; omega), if_pos (by omega), he_62.2]; exact ⟨he_62.1, up_s, fun k h0 _ _ _ _ _ => up_n h0⟩), rfl, rfl⟩
        · refine z_if_eq (tgt := 59) dX8_shareBarred_43 (by decide) (by decide) (fun _ => ?_) (fun h => absurd h (by decide))
          refine z_aload_n (j := 0) dX8_shareBarred_59 rfl rfl ?_
          refine z_bipush dX8_shareBarred_60 (by decide) ?_
          refine z_callVi (i := 0) (ci := 8) (As := [.int (iI (-2))]) (rest := []) (c_X8_refused  hq ) dX8_shareBarred_62 gX8_shareBarred_X8_refused rfl cd_X8_refused ⟨Nat.le_of_ble_eq_true rfl, Nat.le_of_ble_eq_true rfl⟩ rfl rfl (by omega) rfl rfl rfl (Nat.le_of_ble_eq_true rfl) ⟨Nat.zero_le _, Nat.zero_le _⟩ (fun r_62 g_62 hp_62 => ?_)
          obtain ⟨e_62, mi_62, he_62, rfl, rfl⟩ := hp_62
          exact z_iret dX8_shareBarred_65 ⟨_, _, (by unfold chkFor; rw [if_neg (by rw [hnA]; omega), if_pos (by omega), he_62.2]; exact ⟨he_62.1, up_s, fun k h0 _ _ _ _ _ => up_n h0⟩), rfl, rfl⟩
      · refine z_if_eq (tgt := 59) dX8_shareBarred_30 (by decide) (by decide) (fun _ => ?_) (fun h => absurd h (by decide))
        refine z_aload_n (j := 0) dX8_shareBarred_59 rfl rfl ?_
        refine z_bipush dX8_shareBarred_60 (by decide) ?_
        refine z_callVi (i := 0) (ci := 8) (As := [.int (iI (-2))]) (rest := []) (c_X8_refused  hq ) dX8_shareBarred_62 gX8_shareBarred_X8_refused rfl cd_X8_refused ⟨Nat.le_of_ble_eq_true rfl, Nat.le_of_ble_eq_true rfl⟩ rfl rfl (by omega) rfl rfl rfl (Nat.le_of_ble_eq_true rfl) ⟨Nat.zero_le _, Nat.zero_le _⟩ (fun r_62 g_62 hp_62 => ?_)
        obtain ⟨e_62, mi_62, he_62, rfl, rfl⟩ := hp_62
        exact z_iret dX8_shareBarred_65 ⟨_, _, (by unfold chkFor; rw [if_neg (by rw [hnA]; omega), if_pos (by omega), he_62.2]; exact ⟨he_62.1, up_s, fun k h0 _ _ _ _ _ => up_n h0⟩), rfl, rfl⟩
