theorem m_X8_copy_f51 : Cond.fieldLink RX8 51 "PoleBehindModel" "sheetSize" "[I" ∈ wsX8_copy := List.mem_of_getElem? (i := 1) rfl
theorem in_X8_copy_X8 : ∀ w ∈ wsX80, w ∈ wsX8_copy := fun _ h => List.mem_cons_of_mem _ (List.mem_append_right _ h)
theorem m_X8_copy_f54 : Cond.fieldLink RX8 54 "PoleBehindModel" "sheetLane" "[I" ∈ wsX8_copy := List.mem_of_getElem? (i := 2) rfl
theorem m_X8_copy_f57 : Cond.fieldLink RX8 57 "PoleBehindModel" "sheet" "[I" ∈ wsX8_copy := List.mem_of_getElem? (i := 4) rfl
theorem m_X8_copy_f60 : Cond.fieldLink RX8 60 "PoleBehindModel" "hands" "[I" ∈ wsX8_copy := List.mem_of_getElem? (i := 3) rfl
set_option maxHeartbeats 400000 in
set_option maxRecDepth 100000 in
theorem c_X8_copy {l : Launch} {D : va_G} {cI cJ cZ cR : ClassId} {q : Nat → Nat} {mi : Nat → Int} {ma : Nat → Nat → Int} (hq : qOk 18 q) {z ii oo jj nn : Int} (hO : MOk mi ma) (hz : -2147483648 ≤ z ∧ z < 2147483648) (hi : -2147483648 ≤ ii ∧ ii < 2147483648) (ho : -2147483648 ≤ oo ∧ oo < 2147483648) (hj2 : -2147483648 ≤ jj ∧ jj < 2147483648) (hnn : -2147483648 ≤ nn ∧ nn < 2147483648) : Cti l D vwCl (tysC cI cJ cZ cR) 18 q yX8_copy wsX8_copy ({ frames := 2, cells := 0, slots := 0, locals := 45 } : Room) [.ref (q 0), .int (iI z), .int (iI ii), .int (iI oo), .int (iI jj), .int (iI nn)] (cM cI cJ cZ q mi ma) (fun (r : Int32) (g : Nat → va_E) => ∃ (e : Int) (mi' : Nat → Int) (ma' : Nat → Nat → Int), (spCopy (vM mi ma) z ii oo jj nn e (vM mi' ma') ∧ MOk mi' ma') ∧ r = iI e ∧ g = (cM cI cJ cZ q mi' ma')) := by
  refine Cti.of (cc := cX8_copy) (nL := 7) (own := RX8) (ret := (some .int)) (by decide) rfl rfl hq (Nat.le_of_ble_eq_true rfl) (fun p e s m args below meth c => ?_)
  obtain ⟨hR, hn2, hQ, hSh, hSn, hHd, hRdg, hfa⟩ := id hO
  obtain ⟨hN, hP, hK, hM, hD, hB⟩ := id hR
  have hRM := MRv_M hR
  have hnn : rN (rvM mi ma) = mi 1 := rfl
  have hnA : rN (aR (vM mi ma)) = mi 1 := rfl
  have hsz := hSh z.toNat
  have hso := hSh oo.toNat
  refine z_iload_n (j := 1) dX8_copy_0 rfl rfl ?_
  refine z_callSi (As := [.int (iI z)]) (rest := []) (c_X8_noSheet  hq (by omega)) dX8_copy_1 gX8_copy_X8_noSheet rfl cd_X8_noSheet ⟨Nat.le_of_ble_eq_true rfl, Nat.le_of_ble_eq_true rfl⟩ rfl rfl rfl (Nat.le_of_ble_eq_true rfl) ⟨Nat.zero_le _, Nat.zero_le _⟩ (fun r_1 g_1 hp_1 => ?_)
  obtain ⟨⟨h_1, rfl⟩ | ⟨h_1, rfl⟩, rfl⟩ := hp_1
  · refine z_if_ne (tgt := 14) dX8_copy_4 (by decide) (by decide) (fun _ => ?_) (fun h => absurd h (by decide))
    refine z_aload_n (j := 0) dX8_copy_14 rfl rfl ?_
    refine z_iconst dX8_copy_15 ?_
    refine z_callVi (i := 0) (ci := 8) (As := [.int (iI (-1))]) (rest := []) (c_X8_refused  hq ) dX8_copy_16 gX8_copy_X8_refused rfl cd_X8_refused ⟨Nat.le_of_ble_eq_true rfl, Nat.le_of_ble_eq_true rfl⟩ rfl rfl (by omega) rfl rfl rfl (Nat.le_of_ble_eq_true rfl) ⟨Nat.zero_le _, Nat.zero_le _⟩ (fun r_16 g_16 hp_16 => ?_)
    obtain ⟨e_16, mi_16, he_16, rfl, rfl⟩ := hp_16
    exact z_iret dX8_copy_19 ⟨_, _, _, (by unfold spCopy; rw [if_pos (by omega), he_16.2]; exact ⟨⟨he_16.1, vM_fa⟩, MOk_fa hO (by omega)⟩), rfl, rfl⟩
  · refine z_if_ne (tgt := 14) dX8_copy_4 (by decide) (by decide) (fun h => absurd h (by decide)) (fun _ => ?_)
    refine z_iload_n (j := 3) dX8_copy_7 rfl rfl ?_
    refine z_callSi (As := [.int (iI oo)]) (rest := []) (c_X8_noSheet  hq (by omega)) dX8_copy_8 gX8_copy_X8_noSheet rfl cd_X8_noSheet ⟨Nat.le_of_ble_eq_true rfl, Nat.le_of_ble_eq_true rfl⟩ rfl rfl rfl (Nat.le_of_ble_eq_true rfl) ⟨Nat.zero_le _, Nat.zero_le _⟩ (fun r_8 g_8 hp_8 => ?_)
    obtain ⟨⟨h_8, rfl⟩ | ⟨h_8, rfl⟩, rfl⟩ := hp_8
    · refine z_if_eq (tgt := 20) dX8_copy_11 (by decide) (by decide) (fun h => absurd h (by decide)) (fun _ => ?_)
      refine z_aload_n (j := 0) dX8_copy_14 rfl rfl ?_
      refine z_iconst dX8_copy_15 ?_
      refine z_callVi (i := 0) (ci := 8) (As := [.int (iI (-1))]) (rest := []) (c_X8_refused  hq ) dX8_copy_16 gX8_copy_X8_refused rfl cd_X8_refused ⟨Nat.le_of_ble_eq_true rfl, Nat.le_of_ble_eq_true rfl⟩ rfl rfl (by omega) rfl rfl rfl (Nat.le_of_ble_eq_true rfl) ⟨Nat.zero_le _, Nat.zero_le _⟩ (fun r_16 g_16 hp_16 => ?_)
      obtain ⟨e_16, mi_16, he_16, rfl, rfl⟩ := hp_16
      exact z_iret dX8_copy_19 ⟨_, _, _, (by unfold spCopy; rw [if_pos (by omega), he_16.2]; exact ⟨⟨he_16.1, vM_fa⟩, MOk_fa hO (by omega)⟩), rfl, rfl⟩
    · refine z_if_eq (tgt := 20) dX8_copy_11 (by decide) (by decide) (fun _ => ?_) (fun h => absurd h (by decide))
      refine z_aload_n (j := 0) dX8_copy_20 rfl rfl ?_
      refine z_getf (i := 0) (ci := 8) (k := 25) (v := .ref (q 14)) dX8_copy_21 m_X8_copy_f51 in_X8_copy_X8 rfl (by decide) rfl (by omega) rfl rfl ?_
      refine z_iload_n (j := 1) dX8_copy_24 rfl rfl ?_
      refine z_iald (i := 14) (g := ma 14) 0 dX8_copy_25 (by omega) rfl rfl (by omega) (by omega) (by omega) ?_
      refine z_if_lt (tgt := 38) dX8_copy_26 (by decide) (by omega) (fun c_26 => ?_) (fun c_26 => ?_)
      · refine z_aload_n (j := 0) dX8_copy_38 rfl rfl ?_
        refine z_iconst dX8_copy_39 ?_
        refine z_callVi (i := 0) (ci := 8) (As := [.int (iI 1)]) (rest := []) (c_X8_failed  hq ) dX8_copy_40 gX8_copy_X8_failed rfl cd_X8_failed ⟨Nat.le_of_ble_eq_true rfl, Nat.le_of_ble_eq_true rfl⟩ rfl rfl (by omega) rfl rfl rfl (Nat.le_of_ble_eq_true rfl) ⟨Nat.zero_le _, Nat.zero_le _⟩ (fun r_40 g_40 hp_40 => ?_)
        obtain ⟨e_40, mi_40, he_40, rfl, rfl⟩ := hp_40
        exact z_iret dX8_copy_43 ⟨_, _, _, (by
      have hla : aLan (vM mi ma) z.toNat = if ma 14 z.toNat < 0 then -1 else ma 15 z.toNat := lanM_in (by omega)
      have hla2 : aLan (vM mi ma) oo.toNat = if ma 14 oo.toNat < 0 then -1 else ma 15 oo.toNat := lanM_in (by omega)
      have hor : (if ma 14 z.toNat < 0 then -1 else ma 15 z.toNat) = -1 ∨ (if ma 14 oo.toNat < 0 then -1 else ma 15 oo.toNat) = -1 := by
        first
          | exact Or.inl (if_pos (by omega))
          | exact Or.inr (if_pos (by omega))
      unfold spCopy; rw [if_neg (by omega), hla, hla2, if_pos hor, he_40.2]; exact ⟨⟨he_40.1, vM_fa⟩, MOk_fa hO (by omega)⟩), rfl, rfl⟩
      · refine z_aload_n (j := 0) dX8_copy_29 rfl rfl ?_
        refine z_getf (i := 0) (ci := 8) (k := 25) (v := .ref (q 14)) dX8_copy_30 m_X8_copy_f51 in_X8_copy_X8 rfl (by decide) rfl (by omega) rfl rfl ?_
        refine z_iload_n (j := 3) dX8_copy_33 rfl rfl ?_
        refine z_iald (i := 14) (g := ma 14) 0 dX8_copy_34 (by omega) rfl rfl (by omega) (by omega) (by omega) ?_
        refine z_if_ge (tgt := 44) dX8_copy_35 (by decide) (by omega) (fun c_35 => ?_) (fun c_35 => ?_)
        · refine z_aload_n (j := 0) dX8_copy_44 rfl rfl ?_
          refine z_getf (i := 0) (ci := 8) (k := 26) (v := .ref (q 15)) dX8_copy_45 m_X8_copy_f54 in_X8_copy_X8 rfl (by decide) rfl (by omega) rfl rfl ?_
          refine z_iload_n (j := 1) dX8_copy_48 rfl rfl ?_
          refine z_iald (i := 15) (g := ma 15) 0 dX8_copy_49 (by omega) rfl rfl (by omega) (by omega) (by omega) ?_
          refine z_aload_n (j := 0) dX8_copy_50 rfl rfl ?_
          refine z_getf (i := 0) (ci := 8) (k := 26) (v := .ref (q 15)) dX8_copy_51 m_X8_copy_f54 in_X8_copy_X8 rfl (by decide) rfl (by omega) rfl rfl ?_
          refine z_iload_n (j := 3) dX8_copy_54 rfl rfl ?_
          refine z_iald (i := 15) (g := ma 15) 0 dX8_copy_55 (by omega) rfl rfl (by omega) (by omega) (by omega) ?_
          refine z_icmp_eq (tgt := 65) dX8_copy_56 (by decide) (by omega) (by omega) (fun c_56 => ?_) (fun c_56 => ?_)
          · refine z_iload_n (j := 2) dX8_copy_65 rfl rfl ?_
            refine z_iload (j := 5) dX8_copy_66 rfl ?_
            refine z_i2l dX8_copy_68 (by omega) ?_
            refine z_aload_n (j := 0) dX8_copy_69 rfl rfl ?_
            refine z_getf (i := 0) (ci := 8) (k := 25) (v := .ref (q 14)) dX8_copy_70 m_X8_copy_f51 in_X8_copy_X8 rfl (by decide) rfl (by omega) rfl rfl ?_
            refine z_iload_n (j := 1) dX8_copy_73 rfl rfl ?_
            refine z_iald (i := 14) (g := ma 14) 0 dX8_copy_74 (by omega) rfl rfl (by omega) (by omega) (by omega) ?_
            refine z_callSi (As := [.int (iI ii), .long (lI nn), .int (iI (ma 14 z.toNat))]) (rest := []) (c_X8_isBeyond  hq (by omega) (by omega) (by omega)) dX8_copy_75 gX8_copy_X8_isBeyond rfl cd_X8_isBeyond ⟨Nat.le_of_ble_eq_true rfl, Nat.le_of_ble_eq_true rfl⟩ rfl rfl rfl (Nat.le_of_ble_eq_true rfl) ⟨Nat.zero_le _, Nat.zero_le _⟩ (fun r_75 g_75 hp_75 => ?_)
            obtain ⟨⟨h_75, rfl⟩ | ⟨h_75, rfl⟩, rfl⟩ := hp_75
            · refine z_if_ne (tgt := 98) dX8_copy_78 (by decide) (by decide) (fun _ => ?_) (fun h => absurd h (by decide))
              refine z_aload_n (j := 0) dX8_copy_98 rfl rfl ?_
              refine z_iconst dX8_copy_99 ?_
              refine z_callVi (i := 0) (ci := 8) (As := [.int (iI 3)]) (rest := []) (c_X8_failed  hq ) dX8_copy_100 gX8_copy_X8_failed rfl cd_X8_failed ⟨Nat.le_of_ble_eq_true rfl, Nat.le_of_ble_eq_true rfl⟩ rfl rfl (by omega) rfl rfl rfl (Nat.le_of_ble_eq_true rfl) ⟨Nat.zero_le _, Nat.zero_le _⟩ (fun r_100 g_100 hp_100 => ?_)
              obtain ⟨e_100, mi_100, he_100, rfl, rfl⟩ := hp_100
              exact z_iret dX8_copy_103 ⟨_, _, _, (by
      have hla : aLan (vM mi ma) z.toNat = if ma 14 z.toNat < 0 then -1 else ma 15 z.toNat := lanM_in (by omega)
      have hla2 : aLan (vM mi ma) oo.toNat = if ma 14 oo.toNat < 0 then -1 else ma 15 oo.toNat := lanM_in (by omega)
      have hle : aLen (vM mi ma) z.toNat = if ma 14 z.toNat < 0 then 0 else ma 14 z.toNat := lenM_in (by omega)
      have hle2 : aLen (vM mi ma) oo.toNat = if ma 14 oo.toNat < 0 then 0 else ma 14 oo.toNat := lenM_in (by omega)
      rw [if_neg (show ¬ ma 14 z.toNat < 0 by omega)] at hla hle
      rw [if_neg (show ¬ ma 14 oo.toNat < 0 by omega)] at hla2 hle2
      unfold spCopy; rw [if_neg (by omega), hla, hla2, if_neg (by omega), if_neg (by omega), hle, hle2, if_pos (by omega), he_100.2]; exact ⟨⟨he_100.1, vM_fa⟩, MOk_fa hO (by omega)⟩), rfl, rfl⟩
            · refine z_if_ne (tgt := 98) dX8_copy_78 (by decide) (by decide) (fun h => absurd h (by decide)) (fun _ => ?_)
              refine z_iload (j := 4) dX8_copy_81 rfl ?_
              refine z_iload (j := 5) dX8_copy_83 rfl ?_
              refine z_i2l dX8_copy_85 (by omega) ?_
              refine z_aload_n (j := 0) dX8_copy_86 rfl rfl ?_
              refine z_getf (i := 0) (ci := 8) (k := 25) (v := .ref (q 14)) dX8_copy_87 m_X8_copy_f51 in_X8_copy_X8 rfl (by decide) rfl (by omega) rfl rfl ?_
              refine z_iload_n (j := 3) dX8_copy_90 rfl rfl ?_
              refine z_iald (i := 14) (g := ma 14) 0 dX8_copy_91 (by omega) rfl rfl (by omega) (by omega) (by omega) ?_
              refine z_callSi (As := [.int (iI jj), .long (lI nn), .int (iI (ma 14 oo.toNat))]) (rest := []) (c_X8_isBeyond  hq (by omega) (by omega) (by omega)) dX8_copy_92 gX8_copy_X8_isBeyond rfl cd_X8_isBeyond ⟨Nat.le_of_ble_eq_true rfl, Nat.le_of_ble_eq_true rfl⟩ rfl rfl rfl (Nat.le_of_ble_eq_true rfl) ⟨Nat.zero_le _, Nat.zero_le _⟩ (fun r_92 g_92 hp_92 => ?_)
              obtain ⟨⟨h_92, rfl⟩ | ⟨h_92, rfl⟩, rfl⟩ := hp_92
              · refine z_if_eq (tgt := 104) dX8_copy_95 (by decide) (by decide) (fun h => absurd h (by decide)) (fun _ => ?_)
                refine z_aload_n (j := 0) dX8_copy_98 rfl rfl ?_
                refine z_iconst dX8_copy_99 ?_
                refine z_callVi (i := 0) (ci := 8) (As := [.int (iI 3)]) (rest := []) (c_X8_failed  hq ) dX8_copy_100 gX8_copy_X8_failed rfl cd_X8_failed ⟨Nat.le_of_ble_eq_true rfl, Nat.le_of_ble_eq_true rfl⟩ rfl rfl (by omega) rfl rfl rfl (Nat.le_of_ble_eq_true rfl) ⟨Nat.zero_le _, Nat.zero_le _⟩ (fun r_100 g_100 hp_100 => ?_)
                obtain ⟨e_100, mi_100, he_100, rfl, rfl⟩ := hp_100
                exact z_iret dX8_copy_103 ⟨_, _, _, (by
      have hla : aLan (vM mi ma) z.toNat = if ma 14 z.toNat < 0 then -1 else ma 15 z.toNat := lanM_in (by omega)
      have hla2 : aLan (vM mi ma) oo.toNat = if ma 14 oo.toNat < 0 then -1 else ma 15 oo.toNat := lanM_in (by omega)
      have hle : aLen (vM mi ma) z.toNat = if ma 14 z.toNat < 0 then 0 else ma 14 z.toNat := lenM_in (by omega)
      have hle2 : aLen (vM mi ma) oo.toNat = if ma 14 oo.toNat < 0 then 0 else ma 14 oo.toNat := lenM_in (by omega)
      rw [if_neg (show ¬ ma 14 z.toNat < 0 by omega)] at hla hle
      rw [if_neg (show ¬ ma 14 oo.toNat < 0 by omega)] at hla2 hle2
      unfold spCopy; rw [if_neg (by omega), hla, hla2, if_neg (by omega), if_neg (by omega), hle, hle2, if_pos (by omega), he_100.2]; exact ⟨⟨he_100.1, vM_fa⟩, MOk_fa hO (by omega)⟩), rfl, rfl⟩
              · refine z_if_eq (tgt := 104) dX8_copy_95 (by decide) (by decide) (fun _ => ?_) (fun h => absurd h (by decide))
                refine z_iconst dX8_copy_104 ?_
                refine z_istore [(6, .int (iI 0)), (0, .ref (q 0)), (1, .int (iI z)), (2, .int (iI ii)), (3, .int (iI oo)), (4, .int (iI jj)), (5, .int (iI nn))] dX8_copy_105 (by decide) rfl ?_
                have hl_107 : ∀ (N_107 : Nat) (u : Int) (ya : Nat → Nat → Int), (100 - u).toNat < N_107 → (0 ≤ u ∧ u ≤ nn) → (∀ k, k ≠ 17 → ya k = ma k) → (∀ k : Nat, (k : Int) < u → ya 17 k = ma 16 (60 * z.toNat + (ii.toNat + k))) → (∀ k : Nat, -2147483648 ≤ ya 17 k ∧ ya 17 k < 2147483648) → ZMi l D vwCl (tysC cI cJ cZ cR) 18 q ({ frames := 2, cells := 0, slots := 0, locals := 45 } : Room) cX8_copy 7 RX8 wsX8_copy (some .int) (fun (r : Int32) (g : Nat → va_E) => ∃ (e : Int) (mi' : Nat → Int) (ma' : Nat → Nat → Int), (spCopy (vM mi ma) z ii oo jj nn e (vM mi' ma') ∧ MOk mi' ma') ∧ r = iI e ∧ g = (cM cI cJ cZ q mi' ma')) p e s m args below meth c (cM cI cJ cZ q mi ya) 107 [(6, .int (iI u)), (0, .ref (q 0)), (1, .int (iI z)), (2, .int (iI ii)), (3, .int (iI oo)), (4, .int (iI jj)), (5, .int (iI nn))] [] := by
                  intro N_107
                  induction N_107 with
                  | zero => intro u ya hm; exact absurd hm (Nat.not_lt_zero _)
                  | succ N_107 ih_107 =>
                    intro u ya hm_107 hu hya h17 hr
                    have hy16 := hya 16 (by decide)
                    have hsv := hSn (60 * z + ii + u).toNat
                    have hix : (60 * z + ii + u).toNat = 60 * z.toNat + (ii.toNat + u.toNat) := by omega
                    refine z_iload (j := 0) dX8_copy_107 rfl ?_
                    refine z_iload (j := 6) dX8_copy_109 rfl ?_
                    refine z_icmp_ge (tgt := 141) dX8_copy_111 (by decide) (by omega) (by omega) (fun c_111 => ?_) (fun c_111 => ?_)
                    · refine z_iconst dX8_copy_141 ?_
                      refine z_istore [(6, .int (iI 0)), (0, .ref (q 0)), (1, .int (iI z)), (2, .int (iI ii)), (3, .int (iI oo)), (4, .int (iI jj)), (5, .int (iI nn))] dX8_copy_142 (by decide) rfl ?_
                      have hl_144 : ∀ (N_144 : Nat) (v : Int) (za : Nat → Nat → Int), (100 - v).toNat < N_144 → (0 ≤ v ∧ v ≤ nn) → (∀ k, k ≠ 16 → za k = ya k) → (∀ k : Nat, (k : Int) < v → za 16 (60 * oo.toNat + (jj.toNat + k)) = ma 16 (60 * z.toNat + (ii.toNat + k))) → (∀ k : Nat, (k : Int) < 60 * oo + jj ∨ 60 * oo + jj + v ≤ (k : Int) → za 16 k = ma 16 k) → (∀ k : Nat, -2147483648 ≤ za 16 k ∧ za 16 k < 2147483648) → ZMi l D vwCl (tysC cI cJ cZ cR) 18 q ({ frames := 2, cells := 0, slots := 0, locals := 45 } : Room) cX8_copy 7 RX8 wsX8_copy (some .int) (fun (r : Int32) (g : Nat → va_E) => ∃ (e : Int) (mi' : Nat → Int) (ma' : Nat → Nat → Int), (spCopy (vM mi ma) z ii oo jj nn e (vM mi' ma') ∧ MOk mi' ma') ∧ r = iI e ∧ g = (cM cI cJ cZ q mi' ma')) p e s m args below meth c (cM cI cJ cZ q mi za) 144 [(6, .int (iI v)), (0, .ref (q 0)), (1, .int (iI z)), (2, .int (iI ii)), (3, .int (iI oo)), (4, .int (iI jj)), (5, .int (iI nn))] [] := by
                        intro N_144
                        induction N_144 with
                        | zero => intro v za hm; exact absurd hm (Nat.not_lt_zero _)
                        | succ N_144 ih_144 =>
                          intro v za hm_144 hv hza h16 h16o hzr
                          have hz17 := hza 17 (by decide)
                          have hsw := hr v.toNat
                          have hiy : (60 * oo + jj + v).toNat = 60 * oo.toNat + (jj.toNat + v.toNat) := by omega
                          refine z_iload (j := 0) dX8_copy_144 rfl ?_
                          refine z_iload (j := 6) dX8_copy_146 rfl ?_
                          refine z_icmp_ge (tgt := 179) dX8_copy_148 (by decide) (by omega) (by omega) (fun c_148 => ?_) (fun c_148 => ?_)
                          · refine z_aload_n (j := 1) dX8_copy_179 rfl rfl ?_
                            refine z_iload (j := 6) dX8_copy_180 rfl ?_
                            refine z_callVi (i := 0) (ci := 8) (As := [.int (iI nn)]) (rest := []) (c_X8_refused  hq ) dX8_copy_182 gX8_copy_X8_refused rfl cd_X8_refused ⟨Nat.le_of_ble_eq_true rfl, Nat.le_of_ble_eq_true rfl⟩ rfl rfl (by omega) rfl rfl rfl (Nat.le_of_ble_eq_true rfl) ⟨Nat.zero_le _, Nat.zero_le _⟩ (fun r_182 g_182 hp_182 => ?_)
                            obtain ⟨e_182, mi_182, he_182, rfl, rfl⟩ := hp_182
                            exact z_iret dX8_copy_185 ⟨_, _, _, (by
      have hla : aLan (vM mi ma) z.toNat = if ma 14 z.toNat < 0 then -1 else ma 15 z.toNat := lanM_in (by omega)
      have hla2 : aLan (vM mi ma) oo.toNat = if ma 14 oo.toNat < 0 then -1 else ma 15 oo.toNat := lanM_in (by omega)
      have hle : aLen (vM mi ma) z.toNat = if ma 14 z.toNat < 0 then 0 else ma 14 z.toNat := lenM_in (by omega)
      have hle2 : aLen (vM mi ma) oo.toNat = if ma 14 oo.toNat < 0 then 0 else ma 14 oo.toNat := lenM_in (by omega)
      rw [if_neg (show ¬ ma 14 z.toNat < 0 by omega)] at hla hle
      rw [if_neg (show ¬ ma 14 oo.toNat < 0 by omega)] at hla2 hle2
      have hj : oo.toNat < 4 := by omega
      have hj0 : z.toNat < 4 := by omega
      have ho : ∀ k, k ≠ 16 → k ≠ 17 → za k = ma k := fun k h1 h2 => (hza k h1).trans (hya k h2)
      unfold spCopy; rw [if_neg (by omega), hla, hla2, if_neg (by omega), if_neg (by omega), hle, hle2, if_neg (by omega), he_182.2]
      have e14 := ho 14 (by decide) (by decide)
      have e15 := ho 15 (by decide) (by decide)
      refine ⟨⟨he_182.1, ?_⟩, MOk_sh hO (fun k hk => up_n hk) (fun k h1 h2 h3 h4 => ho k h3 h4) (fun i => by rw [e14, e15]; exact hSh i) hzr (by rw [hz17]; exact hr) (by rw [up_s]; omega)⟩
      rw [vM_sh (mi := mi) (ma := ma) (l := lanM ma oo.toNat) (n := lenM ma oo.toNat) (g := cpyN (numM ma z.toNat) (numM ma oo.toNat) ii.toNat jj.toNat nn.toNat) hj (fun k hk => up_n hk) (fun k h1 h2 h3 h4 => ho k h3 h4) (fun i hi => by rw [e14]) (fun i hi => by rw [e15]) (fun i => (hSh i).1.2) (fun i hi k hk => h16o _ (by omega)) (by rw [lanM_in hj, lanM_in hj, e14, e15]) (by rw [lenM_in hj, lenM_in hj, e14]) ?_, up_s, up_id, up_id]
      · rfl
      · have e1 : lenM za oo.toNat = lenM ma oo.toNat := by rw [lenM_in hj, lenM_in hj, e14]
        have e2 : lenM ma oo.toNat = ma 14 oo.toNat := by rw [lenM_in hj, if_neg (by omega)]
        have e3 : lenM ma z.toNat = ma 14 z.toNat := by rw [lenM_in hj0, if_neg (by omega)]
        rw [numM_in hj, numM_in hj, numM_in hj0, e1, e2, e3, ← nrm_cpy (by omega) (by omega)]
        congr 1
        funext k
        unfold cpyN
        by_cases hk : jj.toNat ≤ k ∧ k < jj.toNat + nn.toNat
        · rw [if_pos hk]
          have g := h16 (k - jj.toNat) (by omega)
          rw [show jj.toNat + (k - jj.toNat) = k by omega] at g
          exact g
        · rw [if_neg hk]
          exact h16o _ (by omega)), rfl, rfl⟩
                          · refine z_aload_n (j := 1) dX8_copy_151 rfl rfl ?_
                            refine z_getf (i := 0) (ci := 8) (k := 27) (v := .ref (q 16)) dX8_copy_152 m_X8_copy_f57 in_X8_copy_X8 rfl (by decide) rfl (by omega) rfl rfl ?_
                            refine z_bipush dX8_copy_155 (by decide) ?_
                            refine z_iload_n (j := 4) dX8_copy_157 rfl rfl ?_
                            refine z_imul dX8_copy_158 ?_
                            refine z_iload (j := 5) dX8_copy_159 rfl ?_
                            refine z_iadd dX8_copy_161 ?_
                            refine z_iload (j := 0) dX8_copy_162 rfl ?_
                            refine z_iadd dX8_copy_164 ?_
                            refine z_aload_n (j := 1) dX8_copy_165 rfl rfl ?_
                            refine z_getf (i := 0) (ci := 8) (k := 28) (v := .ref (q 17)) dX8_copy_166 m_X8_copy_f60 in_X8_copy_X8 rfl (by decide) rfl (by omega) rfl rfl ?_
                            refine z_iload (j := 0) dX8_copy_169 rfl ?_
                            refine z_iald (i := 17) (g := za 17) 0 dX8_copy_171 (by omega) rfl rfl (by omega) (by omega) (by omega) ?_
                            refine z_iast (i := 16) (g := za 16) 0 (cM cI cJ cZ q mi (va_up za 16 (va_up (za 16) (((60 * oo) + jj) + v).toNat (za 17 v.toNat)))) dX8_copy_172 (by omega) rfl rfl (by omega) (by omega) (by omega) la_16 ?_
                            refine z_iinc (j := 0) [(6, .int (iI (v + 1))), (0, .ref (q 0)), (1, .int (iI z)), (2, .int (iI ii)), (3, .int (iI oo)), (4, .int (iI jj)), (5, .int (iI nn))] dX8_copy_173 rfl (by decide) rfl ?_
                            refine z_goto (tgt := 144) dX8_copy_176 (by decide) ?_
                            exact z_sub [(6, .int (iI (v + 1))), (0, .ref (q 0)), (1, .int (iI z)), (2, .int (iI ii)), (3, .int (iI oo)), (4, .int (iI jj)), (5, .int (iI nn))] [0, 1, 2, 3, 4, 5, 6] rfl (ih_144 (v + 1) (va_up za 16 (va_up (za 16) (((60 * oo) + jj) + v).toNat (za 17 v.toNat))) (by omega) (by omega) (fun k h1 => by rw [up_n h1]; exact hza k h1) (fun k hk => by
            rw [up_s]
            by_cases hq : k = v.toNat
            · rw [hq, ← hiy, up_s, hz17]; exact h17 _ (by omega)
            · rw [up_n (by omega)]; exact h16 k (by omega)) (fun k hk => by
            rw [up_s, up_n (by omega)]; exact h16o k (by omega)) (by rw [up_s, hz17]; exact up_rng32 hzr hsw))
                      exact z_sub [(6, .int (iI 0)), (0, .ref (q 0)), (1, .int (iI z)), (2, .int (iI ii)), (3, .int (iI oo)), (4, .int (iI jj)), (5, .int (iI nn))] [0, 1, 2, 3, 4, 5, 6] rfl (hl_144 _ 0 ya (Nat.lt_succ_self _) (by omega) (fun _ _ => rfl) (fun k hk => absurd hk (by omega)) (fun k _ => by rw [hy16]) (by rw [hy16]; exact hSn))
                    · refine z_aload_n (j := 1) dX8_copy_114 rfl rfl ?_
                      refine z_getf (i := 0) (ci := 8) (k := 28) (v := .ref (q 17)) dX8_copy_115 m_X8_copy_f60 in_X8_copy_X8 rfl (by decide) rfl (by omega) rfl rfl ?_
                      refine z_iload (j := 0) dX8_copy_118 rfl ?_
                      refine z_aload_n (j := 1) dX8_copy_120 rfl rfl ?_
                      refine z_getf (i := 0) (ci := 8) (k := 27) (v := .ref (q 16)) dX8_copy_121 m_X8_copy_f57 in_X8_copy_X8 rfl (by decide) rfl (by omega) rfl rfl ?_
                      refine z_bipush dX8_copy_124 (by decide) ?_
                      refine z_iload_n (j := 2) dX8_copy_126 rfl rfl ?_
                      refine z_imul dX8_copy_127 ?_
                      refine z_iload_n (j := 3) dX8_copy_128 rfl rfl ?_
                      refine z_iadd dX8_copy_129 ?_
                      refine z_iload (j := 0) dX8_copy_130 rfl ?_
                      refine z_iadd dX8_copy_132 ?_
                      refine z_iald (i := 16) (g := ya 16) 0 dX8_copy_133 (by omega) rfl rfl (by omega) (by omega) (by omega) ?_
                      refine z_iast (i := 17) (g := ya 17) 0 (cM cI cJ cZ q mi (va_up ya 17 (va_up (ya 17) u.toNat (ya 16 (((60 * z) + ii) + u).toNat)))) dX8_copy_134 (by omega) rfl rfl (by omega) (by omega) (by omega) la_17 ?_
                      refine z_iinc (j := 0) [(6, .int (iI (u + 1))), (0, .ref (q 0)), (1, .int (iI z)), (2, .int (iI ii)), (3, .int (iI oo)), (4, .int (iI jj)), (5, .int (iI nn))] dX8_copy_135 rfl (by decide) rfl ?_
                      refine z_goto (tgt := 107) dX8_copy_138 (by decide) ?_
                      exact z_sub [(6, .int (iI (u + 1))), (0, .ref (q 0)), (1, .int (iI z)), (2, .int (iI ii)), (3, .int (iI oo)), (4, .int (iI jj)), (5, .int (iI nn))] [0, 1, 2, 3, 4, 5, 6] rfl (ih_107 (u + 1) (va_up ya 17 (va_up (ya 17) u.toNat (ya 16 (((60 * z) + ii) + u).toNat))) (by omega) (by omega) (fun k h1 => by rw [up_n h1]; exact hya k h1) (fun k hk => by
            rw [up_s]
            by_cases hq : k = u.toNat
            · rw [hq, up_s, hy16, hix]
            · rw [up_n hq]; exact h17 k (by omega)) (by rw [up_s, hy16]; exact up_rng32 hr hsv))
                exact z_sub [(6, .int (iI 0)), (0, .ref (q 0)), (1, .int (iI z)), (2, .int (iI ii)), (3, .int (iI oo)), (4, .int (iI jj)), (5, .int (iI nn))] [0, 1, 2, 3, 4, 5, 6] rfl (hl_107 _ 0 ma (Nat.lt_succ_self _) (by omega) (fun _ _ => rfl) (fun k hk => absurd hk (by omega)) (hHd))
          · refine z_aload_n (j := 0) dX8_copy_59 rfl rfl ?_
            refine z_iconst dX8_copy_60 ?_
            refine z_callVi (i := 0) (ci := 8) (As := [.int (iI 2)]) (rest := []) (c_X8_failed  hq ) dX8_copy_61 gX8_copy_X8_failed rfl cd_X8_failed ⟨Nat.le_of_ble_eq_true rfl, Nat.le_of_ble_eq_true rfl⟩ rfl rfl (by omega) rfl rfl rfl (Nat.le_of_ble_eq_true rfl) ⟨Nat.zero_le _, Nat.zero_le _⟩ (fun r_61 g_61 hp_61 => ?_)
            obtain ⟨e_61, mi_61, he_61, rfl, rfl⟩ := hp_61
            exact z_iret dX8_copy_64 ⟨_, _, _, (by
      have hla : aLan (vM mi ma) z.toNat = if ma 14 z.toNat < 0 then -1 else ma 15 z.toNat := lanM_in (by omega)
      have hla2 : aLan (vM mi ma) oo.toNat = if ma 14 oo.toNat < 0 then -1 else ma 15 oo.toNat := lanM_in (by omega)
      rw [if_neg (show ¬ ma 14 z.toNat < 0 by omega)] at hla
      rw [if_neg (show ¬ ma 14 oo.toNat < 0 by omega)] at hla2
      unfold spCopy; rw [if_neg (by omega), hla, hla2, if_neg (by omega), if_pos (by omega), he_61.2]; exact ⟨⟨he_61.1, vM_fa⟩, MOk_fa hO (by omega)⟩), rfl, rfl⟩
        · refine z_aload_n (j := 0) dX8_copy_38 rfl rfl ?_
          refine z_iconst dX8_copy_39 ?_
          refine z_callVi (i := 0) (ci := 8) (As := [.int (iI 1)]) (rest := []) (c_X8_failed  hq ) dX8_copy_40 gX8_copy_X8_failed rfl cd_X8_failed ⟨Nat.le_of_ble_eq_true rfl, Nat.le_of_ble_eq_true rfl⟩ rfl rfl (by omega) rfl rfl rfl (Nat.le_of_ble_eq_true rfl) ⟨Nat.zero_le _, Nat.zero_le _⟩ (fun r_40 g_40 hp_40 => ?_)
          obtain ⟨e_40, mi_40, he_40, rfl, rfl⟩ := hp_40
          exact z_iret dX8_copy_43 ⟨_, _, _, (by
      have hla : aLan (vM mi ma) z.toNat = if ma 14 z.toNat < 0 then -1 else ma 15 z.toNat := lanM_in (by omega)
      have hla2 : aLan (vM mi ma) oo.toNat = if ma 14 oo.toNat < 0 then -1 else ma 15 oo.toNat := lanM_in (by omega)
      have hor : (if ma 14 z.toNat < 0 then -1 else ma 15 z.toNat) = -1 ∨ (if ma 14 oo.toNat < 0 then -1 else ma 15 oo.toNat) = -1 := by
        first
          | exact Or.inl (if_pos (by omega))
          | exact Or.inr (if_pos (by omega))
      unfold spCopy; rw [if_neg (by omega), hla, hla2, if_pos hor, he_40.2]; exact ⟨⟨he_40.1, vM_fa⟩, MOk_fa hO (by omega)⟩), rfl, rfl⟩
