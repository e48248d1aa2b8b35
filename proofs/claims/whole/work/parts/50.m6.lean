theorem m_X8_reading_C220 : Cond.constantLong RX8 220 (lI (12)) ∈ wsX8_reading := List.mem_of_getElem? (i := 1) (by decide +kernel)
theorem m_X8_reading_f130 : Cond.fieldLink RX8 130 "PoleBehindModel" "readings" "I" ∈ wsX8_reading := List.mem_of_getElem? (i := 2) rfl
theorem in_X8_reading_X8 : ∀ w ∈ wsX80, w ∈ wsX8_reading := fun _ h => List.mem_cons_of_mem _ (List.mem_append_right _ h)
theorem m_X8_reading_f45 : Cond.fieldLink RX8 45 "PoleBehindModel" "readingIn" "[I" ∈ wsX8_reading := List.mem_of_getElem? (i := 3) rfl
theorem m_X8_reading_f48 : Cond.fieldLink RX8 48 "PoleBehindModel" "readingAt" "[I" ∈ wsX8_reading := List.mem_of_getElem? (i := 4) rfl
set_option maxHeartbeats 400000 in
set_option maxRecDepth 100000 in
theorem c_X8_reading {l : Launch} {D : va_G} {cI cJ cZ cR : ClassId} {q : Nat → Nat} {mi : Nat → Int} {ma : Nat → Nat → Int} (hq : qOk 18 q) {tt cc : Int} (hO : MOk mi ma) (ht : -2147483648 ≤ tt ∧ tt < 2147483648) (hc : -2147483648 ≤ cc ∧ cc < 2147483648) : Cti l D vwCl (tysC cI cJ cZ cR) 18 q yX8_reading wsX8_reading ({ frames := 2, cells := 0, slots := 0, locals := 46 } : Room) [.ref (q 0), .int (iI tt), .int (iI cc)] (cM cI cJ cZ q mi ma) (fun (r : Int32) (g : Nat → va_E) => ∃ (e : Int) (mi' : Nat → Int) (ma' : Nat → Nat → Int), (spReading (vM mi ma) tt cc e (vM mi' ma') ∧ MOk mi' ma') ∧ r = iI e ∧ g = (cM cI cJ cZ q mi' ma')) := by
  refine Cti.of (cc := cX8_reading) (nL := 3) (own := RX8) (ret := (some .int)) (by decide) rfl rfl hq (Nat.le_of_ble_eq_true rfl) (fun p e s m args below meth c => ?_)
  obtain ⟨hR, hn2, hQ, hSh, hSn, hHd, hRdg, hfa⟩ := id hO
  obtain ⟨hN, hP, hK, hM, hD, hB⟩ := id hR
  have hRM := MRv_M hR
  have hnn : rN (rvM mi ma) = mi 1 := rfl
  have hnA : rN (aR (vM mi ma)) = mi 1 := rfl
  obtain ⟨hr8, hrT, hrC⟩ := id hRdg
  have hcA : aRc (vM mi ma) = mi 22 := rfl
  refine z_aload_n (j := 0) dX8_reading_0 rfl rfl ?_
  refine z_iload_n (j := 2) dX8_reading_1 rfl rfl ?_
  refine z_callVi (i := 0) (ci := 8) (As := [.int (iI cc)]) (rest := []) (c_X8_noPlace  hq hR (by omega)) dX8_reading_2 gX8_reading_X8_noPlace rfl cd_X8_noPlace ⟨Nat.le_of_ble_eq_true rfl, Nat.le_of_ble_eq_true rfl⟩ rfl rfl (by omega) rfl rfl rfl (Nat.le_of_ble_eq_true rfl) ⟨Nat.zero_le _, Nat.zero_le _⟩ (fun r_2 g_2 hp_2 => ?_)
  obtain ⟨⟨h_2, rfl⟩ | ⟨h_2, rfl⟩, rfl⟩ := hp_2
  · refine z_if_eq (tgt := 10) dX8_reading_5 (by decide) (by decide) (fun h => absurd h (by decide)) (fun _ => ?_)
    refine z_iconst dX8_reading_8 ?_
    exact z_iret dX8_reading_9 ⟨_, _, _, (by unfold spReading; rw [if_pos (by rw [hnA]; omega)]; exact ⟨⟨rfl, rfl⟩, hO⟩), rfl, rfl⟩
  · refine z_if_eq (tgt := 10) dX8_reading_5 (by decide) (by decide) (fun _ => ?_) (fun h => absurd h (by decide))
    refine z_iload_n (j := 1) dX8_reading_10 rfl rfl ?_
    refine z_i2l dX8_reading_11 (by omega) ?_
    refine z_lconst (z := 1) dX8_reading_12 (by decide) ?_
    refine z_ldc2 dX8_reading_13 m_X8_reading_C220 ?_
    refine z_callSi (As := [.long (lI tt), .long (lI 1), .long (lI 12)]) (rest := []) (c_X8_in  hq (by omega) (by omega) (by omega)) dX8_reading_16 gX8_reading_X8_in rfl cd_X8_in ⟨Nat.le_of_ble_eq_true rfl, Nat.le_of_ble_eq_true rfl⟩ rfl rfl rfl (Nat.le_of_ble_eq_true rfl) ⟨Nat.zero_le _, Nat.zero_le _⟩ (fun r_16 g_16 hp_16 => ?_)
    obtain ⟨⟨h_16, rfl⟩ | ⟨h_16, rfl⟩, rfl⟩ := hp_16
    · refine z_if_ne (tgt := 25) dX8_reading_19 (by decide) (by decide) (fun _ => ?_) (fun h => absurd h (by decide))
      refine z_aload_n (j := 0) dX8_reading_25 rfl rfl ?_
      refine z_getf (i := 0) (ci := 8) (k := 22) (v := .int (iI (mi 22))) dX8_reading_26 m_X8_reading_f130 in_X8_reading_X8 rfl (by decide) rfl (by omega) rfl rfl ?_
      refine z_bipush dX8_reading_29 (by decide) ?_
      refine z_icmp_ne (tgt := 37) dX8_reading_31 (by decide) (by omega) (by decide) (fun c_31 => ?_) (fun c_31 => ?_)
      · refine z_aload_n (j := 0) dX8_reading_37 rfl rfl ?_
        refine z_getf (i := 0) (ci := 8) (k := 23) (v := .ref (q 12)) dX8_reading_38 m_X8_reading_f45 in_X8_reading_X8 rfl (by decide) rfl (by omega) rfl rfl ?_
        refine z_aload_n (j := 0) dX8_reading_41 rfl rfl ?_
        refine z_getf (i := 0) (ci := 8) (k := 22) (v := .int (iI (mi 22))) dX8_reading_42 m_X8_reading_f130 in_X8_reading_X8 rfl (by decide) rfl (by omega) rfl rfl ?_
        refine z_iload_n (j := 1) dX8_reading_45 rfl rfl ?_
        refine z_iast (i := 12) (g := ma 12) 0 (cM cI cJ cZ q mi (va_up ma 12 (va_up (ma 12) (mi 22).toNat tt))) dX8_reading_46 (by omega) rfl rfl (by omega) (by omega) (by omega) la_12 ?_
        refine z_aload_n (j := 0) dX8_reading_47 rfl rfl ?_
        refine z_getf (i := 0) (ci := 8) (k := 24) (v := .ref (q 13)) dX8_reading_48 m_X8_reading_f48 in_X8_reading_X8 rfl (by decide) rfl (by omega) rfl rfl ?_
        refine z_aload_n (j := 0) dX8_reading_51 rfl rfl ?_
        refine z_getf (i := 0) (ci := 8) (k := 22) (v := .int (iI (mi 22))) dX8_reading_52 m_X8_reading_f130 in_X8_reading_X8 rfl (by decide) rfl (by omega) rfl rfl ?_
        refine z_iload_n (j := 2) dX8_reading_55 rfl rfl ?_
        refine z_iast (i := 13) (g := ma 13) 0 (cM cI cJ cZ q mi (va_up (va_up ma 12 (va_up (ma 12) (mi 22).toNat tt)) 13 (va_up ((va_up ma 12 (va_up (ma 12) (mi 22).toNat tt)) 13) (mi 22).toNat cc))) dX8_reading_56 (by omega) rfl rfl (by omega) (by omega) (by omega) la_13 ?_
        refine z_aload_n (j := 0) dX8_reading_57 rfl rfl ?_
        refine z_dup dX8_reading_58 rfl ?_
        refine z_getf (i := 0) (ci := 8) (k := 22) (v := .int (iI (mi 22))) dX8_reading_59 m_X8_reading_f130 in_X8_reading_X8 rfl (by decide) rfl (by omega) rfl rfl ?_
        refine z_iconst dX8_reading_62 ?_
        refine z_iadd dX8_reading_63 ?_
        refine z_putf (i := 0) (ci := 8) (k := 22) (cM cI cJ cZ q (va_up mi 22 ((mi 22) + 1)) (va_up (va_up ma 12 (va_up (ma 12) (mi 22).toNat tt)) 13 (va_up ((va_up ma 12 (va_up (ma 12) (mi 22).toNat tt)) 13) (mi 22).toNat cc))) dX8_reading_64 m_X8_reading_f130 in_X8_reading_X8 rfl (by decide) rfl (by omega) rfl tyX8_ok nmX8 rfl rfl rfl (Nat.le_of_ble_eq_true rfl) lm_22 ?_
        refine z_aload_n (j := 0) dX8_reading_67 rfl rfl ?_
        refine z_getf (i := 0) (ci := 8) (k := 22) (v := .int (iI ((mi 22) + 1))) dX8_reading_68 m_X8_reading_f130 in_X8_reading_X8 rfl (by decide) rfl (by omega) rfl rfl ?_
        refine z_iconst dX8_reading_71 ?_
        refine z_isub dX8_reading_72 ?_
        exact z_iret dX8_reading_73 ⟨_, _, _, (by
      unfold spReading; rw [if_neg (by rw [hnA]; omega), if_neg (by omega), if_neg (by rw [hcA]; omega)]
      refine ⟨⟨by rw [hcA]; omega, vM_rd (fun k hk => up_n hk) (fun k h1 h2 => by rw [up_n h2, up_n h1]) up_s ?_ ?_⟩, MOk_rd hO (fun k hk => up_n hk) (fun k h1 h2 => by rw [up_n h2, up_n h1]) ⟨by rw [up_s]; omega, ?_, ?_⟩⟩
      · rw [up_n (by decide), up_s]; exact nrm_add hr8.1
      · rw [up_s]
        first
          | exact nrm_add hr8.1
          | (rw [up_n (by decide)]; exact nrm_add hr8.1)
      · rw [up_n (by decide), up_s]; exact up_rng32 hrT (by omega)
      · rw [up_s]
        first
          | exact up_rng32 hrC (by omega)
          | (rw [up_n (by decide)]; exact up_rng32 hrC (by omega))), rfl, rfl⟩
      · refine z_bipush dX8_reading_34 (by decide) ?_
        exact z_iret dX8_reading_36 ⟨_, _, _, (by unfold spReading; rw [if_neg (by rw [hnA]; omega), if_neg (by omega), if_pos (by rw [hcA]; omega)]; exact ⟨⟨rfl, rfl⟩, hO⟩), rfl, rfl⟩
    · refine z_if_ne (tgt := 25) dX8_reading_19 (by decide) (by decide) (fun h => absurd h (by decide)) (fun _ => ?_)
      refine z_bipush dX8_reading_22 (by decide) ?_
      exact z_iret dX8_reading_24 ⟨_, _, _, (by unfold spReading; rw [if_neg (by rw [hnA]; omega), if_pos (by omega)]; exact ⟨⟨rfl, rfl⟩, hO⟩), rfl, rfl⟩
theorem m_X8_back_f130 : Cond.fieldLink RX8 130 "PoleBehindModel" "readings" "I" ∈ wsX8_back := List.mem_of_getElem? (i := 1) rfl
theorem in_X8_back_X8 : ∀ w ∈ wsX80, w ∈ wsX8_back := fun _ h => List.mem_cons_of_mem _ (List.mem_append_right _ h)
set_option maxHeartbeats 400000 in
set_option maxRecDepth 100000 in
theorem c_X8_back {l : Launch} {D : va_G} {cI cJ cZ cR : ClassId} {q : Nat → Nat} {mi : Nat → Int} {ma : Nat → Nat → Int} (hq : qOk 18 q) {kk : Int} (hO : MOk mi ma) (hk : -2147483648 ≤ kk ∧ kk < 2147483648) : Cti l D vwCl (tysC cI cJ cZ cR) 18 q yX8_back wsX8_back ({ frames := 1, cells := 0, slots := 0, locals := 25 } : Room) [.ref (q 0), .int (iI kk)] (cM cI cJ cZ q mi ma) (fun (r : Int32) (g : Nat → va_E) => ∃ (e : Int) (mi' : Nat → Int), (spBack (vM mi ma) kk e (vM mi' ma) ∧ MOk mi' ma) ∧ r = iI e ∧ g = (cM cI cJ cZ q mi' ma)) := by
  refine Cti.of (cc := cX8_back) (nL := 2) (own := RX8) (ret := (some .int)) (by decide) rfl rfl hq (Nat.le_of_ble_eq_true rfl) (fun p e s m args below meth c => ?_)
  obtain ⟨hR, hn2, hQ, hSh, hSn, hHd, hRdg, hfa⟩ := id hO
  obtain ⟨hN, hP, hK, hM, hD, hB⟩ := id hR
  have hRM := MRv_M hR
  have hnn : rN (rvM mi ma) = mi 1 := rfl
  have hnA : rN (aR (vM mi ma)) = mi 1 := rfl
  obtain ⟨hr8, hrT, hrC⟩ := id hRdg
  have hcA : aRc (vM mi ma) = mi 22 := rfl
  refine z_iload_n (j := 1) dX8_back_0 rfl rfl ?_
  refine z_i2l dX8_back_1 (by omega) ?_
  refine z_lconst (z := 0) dX8_back_2 (by decide) ?_
  refine z_aload_n (j := 0) dX8_back_3 rfl rfl ?_
  refine z_getf (i := 0) (ci := 8) (k := 22) (v := .int (iI (mi 22))) dX8_back_4 m_X8_back_f130 in_X8_back_X8 rfl (by decide) rfl (by omega) rfl rfl ?_
  refine z_i2l dX8_back_7 (by omega) ?_
  refine z_callSi (As := [.long (lI kk), .long (lI 0), .long (lI (mi 22))]) (rest := []) (c_X8_in  hq (by omega) (by omega) (by omega)) dX8_back_8 gX8_back_X8_in rfl cd_X8_in ⟨Nat.le_of_ble_eq_true rfl, Nat.le_of_ble_eq_true rfl⟩ rfl rfl rfl (Nat.le_of_ble_eq_true rfl) ⟨Nat.zero_le _, Nat.zero_le _⟩ (fun r_8 g_8 hp_8 => ?_)
  obtain ⟨⟨h_8, rfl⟩ | ⟨h_8, rfl⟩, rfl⟩ := hp_8
  · refine z_if_ne (tgt := 17) dX8_back_11 (by decide) (by decide) (fun _ => ?_) (fun h => absurd h (by decide))
    refine z_aload_n (j := 0) dX8_back_17 rfl rfl ?_
    refine z_dup dX8_back_18 rfl ?_
    refine z_getf (i := 0) (ci := 8) (k := 22) (v := .int (iI (mi 22))) dX8_back_19 m_X8_back_f130 in_X8_back_X8 rfl (by decide) rfl (by omega) rfl rfl ?_
    refine z_iload_n (j := 1) dX8_back_22 rfl rfl ?_
    refine z_isub dX8_back_23 ?_
    refine z_putf (i := 0) (ci := 8) (k := 22) (cM cI cJ cZ q (va_up mi 22 ((mi 22) - kk)) ma) dX8_back_24 m_X8_back_f130 in_X8_back_X8 rfl (by decide) rfl (by omega) rfl tyX8_ok nmX8 rfl rfl rfl (Nat.le_of_ble_eq_true rfl) lm_22 ?_
    refine z_aload_n (j := 0) dX8_back_27 rfl rfl ?_
    refine z_getf (i := 0) (ci := 8) (k := 22) (v := .int (iI ((mi 22) - kk))) dX8_back_28 m_X8_back_f130 in_X8_back_X8 rfl (by decide) rfl (by omega) rfl rfl ?_
    exact z_iret dX8_back_31 ⟨_, _, (by
      unfold spBack; rw [if_neg (by rw [hcA]; omega)]
      exact ⟨⟨rfl, vM_rd (fun k hk => up_n hk) (fun _ _ _ => rfl) up_s (nrm_nrm (by rw [hcA]; omega)).symm (nrm_nrm (by rw [hcA]; omega)).symm⟩, MOk_rd hO (fun k hk => up_n hk) (fun _ _ _ => rfl) ⟨by rw [up_s]; omega, hrT, hrC⟩⟩), rfl, rfl⟩
  · refine z_if_ne (tgt := 17) dX8_back_11 (by decide) (by decide) (fun h => absurd h (by decide)) (fun _ => ?_)
    refine z_bipush dX8_back_14 (by decide) ?_
    exact z_iret dX8_back_16 ⟨_, _, (by unfold spBack; rw [if_pos (by rw [hcA]; omega)]; exact ⟨⟨rfl, rfl⟩, hO⟩), rfl, rfl⟩
