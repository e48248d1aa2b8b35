theorem m_X8_sheet_C118 : Cond.constantLong RX8 118 (lI (2)) ∈ wsX8_sheet := List.mem_of_getElem? (i := 1) (by decide +kernel)
theorem m_X8_sheet_f51 : Cond.fieldLink RX8 51 "PoleBehindModel" "sheetSize" "[I" ∈ wsX8_sheet := List.mem_of_getElem? (i := 2) rfl
theorem in_X8_sheet_X8 : ∀ w ∈ wsX80, w ∈ wsX8_sheet := fun _ h => List.mem_cons_of_mem _ (List.mem_append_right _ h)
theorem m_X8_sheet_f54 : Cond.fieldLink RX8 54 "PoleBehindModel" "sheetLane" "[I" ∈ wsX8_sheet := List.mem_of_getElem? (i := 3) rfl
theorem m_X8_sheet_f57 : Cond.fieldLink RX8 57 "PoleBehindModel" "sheet" "[I" ∈ wsX8_sheet := List.mem_of_getElem? (i := 4) rfl
set_option maxHeartbeats 400000 in
set_option maxRecDepth 100000 in
theorem c_X8_sheet {l : Launch} {D : va_G} {cI cJ cZ cR : ClassId} {q : Nat → Nat} {mi : Nat → Int} {ma : Nat → Nat → Int} (hq : qOk 18 q) {z ln nn : Int} (hO : MOk mi ma) (hz : -2147483648 ≤ z ∧ z < 2147483648) (hl : -2147483648 ≤ ln ∧ ln < 2147483648) (hnn : -2147483648 ≤ nn ∧ nn < 2147483648) : Cti l D vwCl (tysC cI cJ cZ cR) 18 q yX8_sheet wsX8_sheet ({ frames := 2, cells := 0, slots := 0, locals := 45 } : Room) [.ref (q 0), .int (iI z), .int (iI ln), .int (iI nn)] (cM cI cJ cZ q mi ma) (fun (r : Int32) (g : Nat → va_E) => ∃ (e : Int) (mi' : Nat → Int) (ma' : Nat → Nat → Int), (spSheet (vM mi ma) z ln nn e (vM mi' ma') ∧ MOk mi' ma') ∧ r = iI e ∧ g = (cM cI cJ cZ q mi' ma')) := by
  refine Cti.of (cc := cX8_sheet) (nL := 5) (own := RX8) (ret := (some .int)) (by decide) rfl rfl hq (Nat.le_of_ble_eq_true rfl) (fun p e s m args below meth c => ?_)
  obtain ⟨hR, hn2, hQ, hSh, hSn, hHd, hRdg, hfa⟩ := id hO
  obtain ⟨hN, hP, hK, hM, hD, hB⟩ := id hR
  have hRM := MRv_M hR
  have hnn : rN (rvM mi ma) = mi 1 := rfl
  have hnA : rN (aR (vM mi ma)) = mi 1 := rfl
  have hsz := hSh z.toNat
  refine z_iload_n (j := 1) dX8_sheet_0 rfl rfl ?_
  refine z_callSi (As := [.int (iI z)]) (rest := []) (c_X8_noSheet  hq (by omega)) dX8_sheet_1 gX8_sheet_X8_noSheet rfl cd_X8_noSheet ⟨Nat.le_of_ble_eq_true rfl, Nat.le_of_ble_eq_true rfl⟩ rfl rfl rfl (Nat.le_of_ble_eq_true rfl) ⟨Nat.zero_le _, Nat.zero_le _⟩ (fun r_1 g_1 hp_1 => ?_)
  obtain ⟨⟨h_1, rfl⟩ | ⟨h_1, rfl⟩, rfl⟩ := hp_1
  · refine z_if_eq (tgt := 13) dX8_sheet_4 (by decide) (by decide) (fun h => absurd h (by decide)) (fun _ => ?_)
    refine z_aload_n (j := 0) dX8_sheet_7 rfl rfl ?_
    refine z_iconst dX8_sheet_8 ?_
    refine z_callVi (i := 0) (ci := 8) (As := [.int (iI (-1))]) (rest := []) (c_X8_refused  hq ) dX8_sheet_9 gX8_sheet_X8_refused rfl cd_X8_refused ⟨Nat.le_of_ble_eq_true rfl, Nat.le_of_ble_eq_true rfl⟩ rfl rfl (by omega) rfl rfl rfl (Nat.le_of_ble_eq_true rfl) ⟨Nat.zero_le _, Nat.zero_le _⟩ (fun r_9 g_9 hp_9 => ?_)
    obtain ⟨e_9, mi_9, he_9, rfl, rfl⟩ := hp_9
    exact z_iret dX8_sheet_12 ⟨_, _, _, (by unfold spSheet; rw [if_pos (by omega), he_9.2]; exact ⟨⟨he_9.1, vM_fa⟩, MOk_fa hO (by omega)⟩), rfl, rfl⟩
  · refine z_if_eq (tgt := 13) dX8_sheet_4 (by decide) (by decide) (fun _ => ?_) (fun h => absurd h (by decide))
    refine z_iload_n (j := 2) dX8_sheet_13 rfl rfl ?_
    refine z_i2l dX8_sheet_14 (by omega) ?_
    refine z_lconst (z := 0) dX8_sheet_15 (by decide) ?_
    refine z_ldc2 dX8_sheet_16 m_X8_sheet_C118 ?_
    refine z_callSi (As := [.long (lI ln), .long (lI 0), .long (lI 2)]) (rest := []) (c_X8_in  hq (by omega) (by omega) (by omega)) dX8_sheet_19 gX8_sheet_X8_in rfl cd_X8_in ⟨Nat.le_of_ble_eq_true rfl, Nat.le_of_ble_eq_true rfl⟩ rfl rfl rfl (Nat.le_of_ble_eq_true rfl) ⟨Nat.zero_le _, Nat.zero_le _⟩ (fun r_19 g_19 hp_19 => ?_)
    obtain ⟨⟨h_19, rfl⟩ | ⟨h_19, rfl⟩, rfl⟩ := hp_19
    · refine z_if_eq (tgt := 31) dX8_sheet_22 (by decide) (by decide) (fun h => absurd h (by decide)) (fun _ => ?_)
      refine z_iload_n (j := 3) dX8_sheet_25 rfl rfl ?_
      refine z_bipush dX8_sheet_26 (by decide) ?_
      refine z_icmp_le (tgt := 38) dX8_sheet_28 (by decide) (by omega) (by decide) (fun c_28 => ?_) (fun c_28 => ?_)
      · refine z_iload_n (j := 3) dX8_sheet_38 rfl rfl ?_
        refine z_if_ge (tgt := 48) dX8_sheet_39 (by decide) (by omega) (fun c_39 => ?_) (fun c_39 => ?_)
        · refine z_aload_n (j := 0) dX8_sheet_48 rfl rfl ?_
          refine z_getf (i := 0) (ci := 8) (k := 25) (v := .ref (q 14)) dX8_sheet_49 m_X8_sheet_f51 in_X8_sheet_X8 rfl (by decide) rfl (by omega) rfl rfl ?_
          refine z_iload_n (j := 1) dX8_sheet_52 rfl rfl ?_
          refine z_iload_n (j := 3) dX8_sheet_53 rfl rfl ?_
          refine z_iast (i := 14) (g := ma 14) 0 (cM cI cJ cZ q mi (va_up ma 14 (va_up (ma 14) z.toNat nn))) dX8_sheet_54 (by omega) rfl rfl (by omega) (by omega) (by omega) la_14 ?_
          refine z_aload_n (j := 0) dX8_sheet_55 rfl rfl ?_
          refine z_getf (i := 0) (ci := 8) (k := 26) (v := .ref (q 15)) dX8_sheet_56 m_X8_sheet_f54 in_X8_sheet_X8 rfl (by decide) rfl (by omega) rfl rfl ?_
          refine z_iload_n (j := 1) dX8_sheet_59 rfl rfl ?_
          refine z_iload_n (j := 2) dX8_sheet_60 rfl rfl ?_
          refine z_iast (i := 15) (g := ma 15) 0 (cM cI cJ cZ q mi (va_up (va_up ma 14 (va_up (ma 14) z.toNat nn)) 15 (va_up ((va_up ma 14 (va_up (ma 14) z.toNat nn)) 15) z.toNat ln))) dX8_sheet_61 (by omega) rfl rfl (by omega) (by omega) (by omega) la_15 ?_
          refine z_iconst dX8_sheet_62 ?_
          refine z_istore [(4, .int (iI 0)), (0, .ref (q 0)), (1, .int (iI z)), (2, .int (iI ln)), (3, .int (iI nn))] dX8_sheet_63 (by decide) rfl ?_
          have hl_65 : ∀ (N_65 : Nat) (u : Int) (ya : Nat → Nat → Int), (100 - u).toNat < N_65 → (0 ≤ u ∧ u ≤ nn) → (∀ k, k ≠ 14 → k ≠ 15 → k ≠ 16 → ya k = ma k) → (ya 14 = va_up (ma 14) z.toNat nn) → (ya 15 = va_up (ma 15) z.toNat ln) → (∀ i, i ≠ z.toNat → ∀ k : Nat, k < 60 → ya 16 (60 * i + k) = ma 16 (60 * i + k)) → (∀ k : Nat, (k : Int) < u → ya 16 (60 * z.toNat + k) = 0) → (∀ k : Nat, -2147483648 ≤ ya 16 k ∧ ya 16 k < 2147483648) → ZMi l D vwCl (tysC cI cJ cZ cR) 18 q ({ frames := 2, cells := 0, slots := 0, locals := 45 } : Room) cX8_sheet 5 RX8 wsX8_sheet (some .int) (fun (r : Int32) (g : Nat → va_E) => ∃ (e : Int) (mi' : Nat → Int) (ma' : Nat → Nat → Int), (spSheet (vM mi ma) z ln nn e (vM mi' ma') ∧ MOk mi' ma') ∧ r = iI e ∧ g = (cM cI cJ cZ q mi' ma')) p e s m args below meth c (cM cI cJ cZ q mi ya) 65 [(4, .int (iI u)), (0, .ref (q 0)), (1, .int (iI z)), (2, .int (iI ln)), (3, .int (iI nn))] [] := by
            intro N_65
            induction N_65 with
            | zero => intro u ya hm; exact absurd hm (Nat.not_lt_zero _)
            | succ N_65 ih_65 =>
              intro u ya hm_65 hu hya h14 h15 h16 h0 hr
              refine z_iload (j := 0) dX8_sheet_65 rfl ?_
              refine z_iload_n (j := 4) dX8_sheet_67 rfl rfl ?_
              refine z_icmp_ge (tgt := 90) dX8_sheet_68 (by decide) (by omega) (by omega) (fun c_68 => ?_) (fun c_68 => ?_)
              · refine z_aload_n (j := 1) dX8_sheet_90 rfl rfl ?_
                refine z_iconst dX8_sheet_91 ?_
                refine z_callVi (i := 0) (ci := 8) (As := [.int (iI 1)]) (rest := []) (c_X8_refused  hq ) dX8_sheet_92 gX8_sheet_X8_refused rfl cd_X8_refused ⟨Nat.le_of_ble_eq_true rfl, Nat.le_of_ble_eq_true rfl⟩ rfl rfl (by omega) rfl rfl rfl (Nat.le_of_ble_eq_true rfl) ⟨Nat.zero_le _, Nat.zero_le _⟩ (fun r_92 g_92 hp_92 => ?_)
                obtain ⟨e_92, mi_92, he_92, rfl, rfl⟩ := hp_92
                exact z_iret dX8_sheet_95 ⟨_, _, _, (by
      have hj : z.toNat < 4 := by omega
      unfold spSheet; rw [if_neg (by omega), if_neg (by omega), if_neg (by omega), he_92.2]
      have hn1 : ya 14 z.toNat = nn := by rw [h14, up_s]
      have hl1 : ya 15 z.toNat = ln := by rw [h15, up_s]
      refine ⟨⟨he_92.1, ?_⟩, MOk_sh hO (fun k hk => up_n hk) (fun k h1 h2 h3 h4 => hya k h1 h2 h3) (fun i => ?_) hr (by rw [hya 17 (by decide) (by decide) (by decide)]; exact hHd) (by rw [up_s]; omega)⟩
      · rw [vM_sh (mi := mi) (ma := ma) (l := ln) (n := nn) (g := fun _ => 0) hj (fun k hk => up_n hk) (fun k h1 h2 h3 h4 => hya k h1 h2 h3) (fun i hi => by rw [h14, up_n hi]) (fun i hi => by rw [h15, up_n hi]) (fun i => (hSh i).1.2) h16 (by rw [lanM_in hj, hn1, hl1, if_neg (by omega)]) (by rw [lenM_in hj, hn1, if_neg (by omega)]) (by rw [numM_in hj, lenM_in hj, hn1, if_neg (by omega)]; exact nrm_all0 (fun k hk => h0 k (by omega))), up_s]
        rfl
      · rw [h14, h15]
        by_cases hi : i = z.toNat
        · rw [hi, up_s, up_s]; omega
        · rw [up_n hi, up_n hi]; exact hSh i), rfl, rfl⟩
              · refine z_aload_n (j := 1) dX8_sheet_71 rfl rfl ?_
                refine z_getf (i := 0) (ci := 8) (k := 27) (v := .ref (q 16)) dX8_sheet_72 m_X8_sheet_f57 in_X8_sheet_X8 rfl (by decide) rfl (by omega) rfl rfl ?_
                refine z_bipush dX8_sheet_75 (by decide) ?_
                refine z_iload_n (j := 2) dX8_sheet_77 rfl rfl ?_
                refine z_imul dX8_sheet_78 ?_
                refine z_iload (j := 0) dX8_sheet_79 rfl ?_
                refine z_iadd dX8_sheet_81 ?_
                refine z_iconst dX8_sheet_82 ?_
                refine z_iast (i := 16) (g := ya 16) 0 (cM cI cJ cZ q mi (va_up ya 16 (va_up (ya 16) ((60 * z) + u).toNat 0))) dX8_sheet_83 (by omega) rfl rfl (by omega) (by omega) (by omega) la_16 ?_
                refine z_iinc (j := 0) [(4, .int (iI (u + 1))), (0, .ref (q 0)), (1, .int (iI z)), (2, .int (iI ln)), (3, .int (iI nn))] dX8_sheet_84 rfl (by decide) rfl ?_
                refine z_goto (tgt := 65) dX8_sheet_87 (by decide) ?_
                exact z_sub [(4, .int (iI (u + 1))), (0, .ref (q 0)), (1, .int (iI z)), (2, .int (iI ln)), (3, .int (iI nn))] [0, 1, 2, 3, 4] rfl (ih_65 (u + 1) (va_up ya 16 (va_up (ya 16) ((60 * z) + u).toNat 0)) (by omega) (by omega) (fun k h1 h2 h3 => by rw [up_n h3]; exact hya k h1 h2 h3) (by rw [up_n (by decide)]; exact h14) (by rw [up_n (by decide)]; exact h15) (fun i hi k hk => by rw [up_s, up_n (by omega)]; exact h16 i hi k hk) (fun k hk => by
            rw [up_s]
            by_cases hq : (k : Int) = u
            · rw [show 60 * z.toNat + k = (60 * z + u).toNat by omega, up_s]
            · rw [up_n (by omega)]; exact h0 k (by omega)) (by rw [up_s]; exact up_rng32 hr (by omega)))
          exact z_sub [(4, .int (iI 0)), (0, .ref (q 0)), (1, .int (iI z)), (2, .int (iI ln)), (3, .int (iI nn))] [0, 1, 2, 3, 4] rfl (hl_65 _ 0 (va_up (va_up ma 14 (va_up (ma 14) z.toNat nn)) 15 (va_up ((va_up ma 14 (va_up (ma 14) z.toNat nn)) 15) z.toNat ln)) (Nat.lt_succ_self _) (by omega) (fun k h1 h2 h3 => by rw [up_n h2, up_n h1]) (by rw [up_n (show (14 : Nat) ≠ 15 by decide), up_s]) (by rw [up_s, up_n (show (15 : Nat) ≠ 14 by decide)]) (fun i hi k hk => by rw [up_n (show (16 : Nat) ≠ 15 by decide), up_n (show (16 : Nat) ≠ 14 by decide)]) (fun k hk => absurd hk (by omega)) (by rw [up_n (show (16 : Nat) ≠ 15 by decide), up_n (show (16 : Nat) ≠ 14 by decide)]; exact hSn))
        · refine z_aload_n (j := 0) dX8_sheet_42 rfl rfl ?_
          refine z_iconst dX8_sheet_43 ?_
          refine z_callVi (i := 0) (ci := 8) (As := [.int (iI 4)]) (rest := []) (c_X8_failed  hq ) dX8_sheet_44 gX8_sheet_X8_failed rfl cd_X8_failed ⟨Nat.le_of_ble_eq_true rfl, Nat.le_of_ble_eq_true rfl⟩ rfl rfl (by omega) rfl rfl rfl (Nat.le_of_ble_eq_true rfl) ⟨Nat.zero_le _, Nat.zero_le _⟩ (fun r_44 g_44 hp_44 => ?_)
          obtain ⟨e_44, mi_44, he_44, rfl, rfl⟩ := hp_44
          exact z_iret dX8_sheet_47 ⟨_, _, _, (by unfold spSheet; rw [if_neg (by omega), if_neg (by omega), if_pos (by omega), he_44.2]; exact ⟨⟨he_44.1, vM_fa⟩, MOk_fa hO (by omega)⟩), rfl, rfl⟩
      · refine z_aload_n (j := 0) dX8_sheet_31 rfl rfl ?_
        refine z_bipush dX8_sheet_32 (by decide) ?_
        refine z_callVi (i := 0) (ci := 8) (As := [.int (iI (-2))]) (rest := []) (c_X8_refused  hq ) dX8_sheet_34 gX8_sheet_X8_refused rfl cd_X8_refused ⟨Nat.le_of_ble_eq_true rfl, Nat.le_of_ble_eq_true rfl⟩ rfl rfl (by omega) rfl rfl rfl (Nat.le_of_ble_eq_true rfl) ⟨Nat.zero_le _, Nat.zero_le _⟩ (fun r_34 g_34 hp_34 => ?_)
        obtain ⟨e_34, mi_34, he_34, rfl, rfl⟩ := hp_34
        exact z_iret dX8_sheet_37 ⟨_, _, _, (by unfold spSheet; rw [if_neg (by omega), if_pos (by omega), he_34.2]; exact ⟨⟨he_34.1, vM_fa⟩, MOk_fa hO (by omega)⟩), rfl, rfl⟩
    · refine z_if_eq (tgt := 31) dX8_sheet_22 (by decide) (by decide) (fun _ => ?_) (fun h => absurd h (by decide))
      refine z_aload_n (j := 0) dX8_sheet_31 rfl rfl ?_
      refine z_bipush dX8_sheet_32 (by decide) ?_
      refine z_callVi (i := 0) (ci := 8) (As := [.int (iI (-2))]) (rest := []) (c_X8_refused  hq ) dX8_sheet_34 gX8_sheet_X8_refused rfl cd_X8_refused ⟨Nat.le_of_ble_eq_true rfl, Nat.le_of_ble_eq_true rfl⟩ rfl rfl (by omega) rfl rfl rfl (Nat.le_of_ble_eq_true rfl) ⟨Nat.zero_le _, Nat.zero_le _⟩ (fun r_34 g_34 hp_34 => ?_)
      obtain ⟨e_34, mi_34, he_34, rfl, rfl⟩ := hp_34
      exact z_iret dX8_sheet_37 ⟨_, _, _, (by unfold spSheet; rw [if_neg (by omega), if_pos (by omega), he_34.2]; exact ⟨⟨he_34.1, vM_fa⟩, MOk_fa hO (by omega)⟩), rfl, rfl⟩
