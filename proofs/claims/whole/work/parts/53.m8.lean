theorem m_X8_put_f57 : Cond.fieldLink RX8 57 "PoleBehindModel" "sheet" "[I" ∈ wsX8_put := List.mem_of_getElem? (i := 1) rfl
theorem in_X8_put_X8 : ∀ w ∈ wsX80, w ∈ wsX8_put := fun _ h => List.mem_cons_of_mem _ (List.mem_append_right _ h)
theorem m_X8_put_f54 : Cond.fieldLink RX8 54 "PoleBehindModel" "sheetLane" "[I" ∈ wsX8_put := List.mem_of_getElem? (i := 2) rfl
set_option maxHeartbeats 400000 in
set_option maxRecDepth 100000 in
theorem c_X8_put {l : Launch} {D : va_G} {cI cJ cZ cR : ClassId} {q : Nat → Nat} {mi : Nat → Int} {ma : Nat → Nat → Int} (hq : qOk 18 q) {z ii v : Int} (hO : MOk mi ma) (hz : -2147483648 ≤ z ∧ z < 2147483648) (hi : -2147483648 ≤ ii ∧ ii < 2147483648) (hv : -2147483648 ≤ v ∧ v < 2147483648) : Cti l D vwCl (tysC cI cJ cZ cR) 18 q yX8_put wsX8_put ({ frames := 2, cells := 0, slots := 0, locals := 47 } : Room) [.ref (q 0), .int (iI z), .int (iI ii), .int (iI v)] (cM cI cJ cZ q mi ma) (fun (r : Int32) (g : Nat → va_E) => ∃ (e : Int) (mi' : Nat → Int) (ma' : Nat → Nat → Int), (spPut (vM mi ma) z ii v e (vM mi' ma') ∧ MOk mi' ma') ∧ r = iI e ∧ g = (cM cI cJ cZ q mi' ma')) := by
  refine Cti.of (cc := cX8_put) (nL := 4) (own := RX8) (ret := (some .int)) (by decide) rfl rfl hq (Nat.le_of_ble_eq_true rfl) (fun p e s m args below meth c => ?_)
  obtain ⟨hR, hn2, hQ, hSh, hSn, hHd, hRdg, hfa⟩ := id hO
  obtain ⟨hN, hP, hK, hM, hD, hB⟩ := id hR
  have hRM := MRv_M hR
  have hnn : rN (rvM mi ma) = mi 1 := rfl
  have hnA : rN (aR (vM mi ma)) = mi 1 := rfl
  have hsz := hSh z.toNat
  refine z_iload_n (j := 1) dX8_put_0 rfl rfl ?_
  refine z_callSi (As := [.int (iI z)]) (rest := []) (c_X8_noSheet  hq (by omega)) dX8_put_1 gX8_put_X8_noSheet rfl cd_X8_noSheet ⟨Nat.le_of_ble_eq_true rfl, Nat.le_of_ble_eq_true rfl⟩ rfl rfl rfl (Nat.le_of_ble_eq_true rfl) ⟨Nat.zero_le _, Nat.zero_le _⟩ (fun r_1 g_1 hp_1 => ?_)
  obtain ⟨⟨h_1, rfl⟩ | ⟨h_1, rfl⟩, rfl⟩ := hp_1
  · refine z_if_eq (tgt := 13) dX8_put_4 (by decide) (by decide) (fun h => absurd h (by decide)) (fun _ => ?_)
    refine z_aload_n (j := 0) dX8_put_7 rfl rfl ?_
    refine z_iconst dX8_put_8 ?_
    refine z_callVi (i := 0) (ci := 8) (As := [.int (iI (-1))]) (rest := []) (c_X8_refused  hq ) dX8_put_9 gX8_put_X8_refused rfl cd_X8_refused ⟨Nat.le_of_ble_eq_true rfl, Nat.le_of_ble_eq_true rfl⟩ rfl rfl (by omega) rfl rfl rfl (Nat.le_of_ble_eq_true rfl) ⟨Nat.zero_le _, Nat.zero_le _⟩ (fun r_9 g_9 hp_9 => ?_)
    obtain ⟨e_9, mi_9, he_9, rfl, rfl⟩ := hp_9
    exact z_iret dX8_put_12 ⟨_, _, _, (by unfold spPut; rw [if_pos (by omega), he_9.2]; exact ⟨⟨he_9.1, vM_fa⟩, MOk_fa hO (by omega)⟩), rfl, rfl⟩
  · refine z_if_eq (tgt := 13) dX8_put_4 (by decide) (by decide) (fun _ => ?_) (fun h => absurd h (by decide))
    refine z_aload_n (j := 0) dX8_put_13 rfl rfl ?_
    refine z_iload_n (j := 1) dX8_put_14 rfl rfl ?_
    refine z_iload_n (j := 2) dX8_put_15 rfl rfl ?_
    refine z_callVi (i := 0) (ci := 8) (As := [.int (iI z), .int (iI ii)]) (rest := []) (c_X8_noCell  hq hO (by omega) (by omega)) dX8_put_16 gX8_put_X8_noCell rfl cd_X8_noCell ⟨Nat.le_of_ble_eq_true rfl, Nat.le_of_ble_eq_true rfl⟩ rfl rfl (by omega) rfl rfl rfl (Nat.le_of_ble_eq_true rfl) ⟨Nat.zero_le _, Nat.zero_le _⟩ (fun r_16 g_16 hp_16 => ?_)
    obtain ⟨⟨e_16, he_16, rfl⟩, rfl⟩ := hp_16
    have hnr16 : 0 ≤ e_16 ∧ e_16 ≤ 3 := by
      rw [he_16]
      split <;> (try split) <;> omega
    refine z_if_le (tgt := 33) dX8_put_19 (by decide) (by omega) (fun c_19 => ?_) (fun c_19 => ?_)
    · have h0 : ¬ ma 14 z.toNat < 0 ∧ 0 ≤ ii ∧ ii < ma 14 z.toNat := by
        by_cases q1 : ma 14 z.toNat < 0
        · rw [if_pos q1] at he_16; omega
        · rw [if_neg q1] at he_16
          by_cases q2 : 0 ≤ ii ∧ ii < ma 14 z.toNat
          · exact ⟨q1, q2⟩
          · rw [if_neg q2] at he_16; omega
      refine z_aload_n (j := 0) dX8_put_33 rfl rfl ?_
      refine z_getf (i := 0) (ci := 8) (k := 27) (v := .ref (q 16)) dX8_put_34 m_X8_put_f57 in_X8_put_X8 rfl (by decide) rfl (by omega) rfl rfl ?_
      refine z_bipush dX8_put_37 (by decide) ?_
      refine z_iload_n (j := 1) dX8_put_39 rfl rfl ?_
      refine z_imul dX8_put_40 ?_
      refine z_iload_n (j := 2) dX8_put_41 rfl rfl ?_
      refine z_iadd dX8_put_42 ?_
      refine z_aload_n (j := 0) dX8_put_43 rfl rfl ?_
      refine z_getf (i := 0) (ci := 8) (k := 26) (v := .ref (q 15)) dX8_put_44 m_X8_put_f54 in_X8_put_X8 rfl (by decide) rfl (by omega) rfl rfl ?_
      refine z_iload_n (j := 1) dX8_put_47 rfl rfl ?_
      refine z_iald (i := 15) (g := ma 15) 0 dX8_put_48 (by omega) rfl rfl (by omega) (by omega) (by omega) ?_
      refine z_if_ne (tgt := 57) dX8_put_49 (by decide) (by omega) (fun c_49 => ?_) (fun c_49 => ?_)
      · refine z_aload_n (j := 0) dX8_put_57 rfl rfl ?_
        refine z_getf (i := 0) (ci := 8) (k := 26) (v := .ref (q 15)) dX8_put_58 m_X8_put_f54 in_X8_put_X8 rfl (by decide) rfl (by omega) rfl rfl ?_
        refine z_iload_n (j := 1) dX8_put_61 rfl rfl ?_
        refine z_iald (i := 15) (g := ma 15) 0 dX8_put_62 (by omega) rfl rfl (by omega) (by omega) (by omega) ?_
        refine z_iconst dX8_put_63 ?_
        refine z_icmp_ne (tgt := 72) dX8_put_64 (by decide) (by omega) (by decide) (fun c_64 => ?_) (fun c_64 => ?_)
        · refine z_iload_n (j := 3) dX8_put_72 rfl rfl ?_
          refine z_iast (i := 16) (g := ma 16) 0 (cM cI cJ cZ q mi (va_up ma 16 (va_up (ma 16) ((60 * z) + ii).toNat v))) dX8_put_73 (by omega) rfl rfl (by omega) (by omega) (by omega) la_16 ?_
          refine z_aload_n (j := 0) dX8_put_74 rfl rfl ?_
          refine z_iconst dX8_put_75 ?_
          refine z_callVi (i := 0) (ci := 8) (As := [.int (iI 1)]) (rest := []) (c_X8_refused  hq ) dX8_put_76 gX8_put_X8_refused rfl cd_X8_refused ⟨Nat.le_of_ble_eq_true rfl, Nat.le_of_ble_eq_true rfl⟩ rfl rfl (by omega) rfl rfl rfl (Nat.le_of_ble_eq_true rfl) ⟨Nat.zero_le _, Nat.zero_le _⟩ (fun r_76 g_76 hp_76 => ?_)
          obtain ⟨e_76, mi_76, he_76, rfl, rfl⟩ := hp_76
          exact z_iret dX8_put_79 ⟨_, _, _, (by
      have hla : aLan (vM mi ma) z.toNat = if ma 14 z.toNat < 0 then -1 else ma 15 z.toNat := lanM_in (by omega)
      have hle : aLen (vM mi ma) z.toNat = if ma 14 z.toNat < 0 then 0 else ma 14 z.toNat := lenM_in (by omega)
      have hj : z.toNat < 4 := by omega
      have hix : (60 * z + ii).toNat = 60 * z.toNat + ii.toNat := by omega
      have key : ∀ x : Int, x = cutL (ma 15 z.toNat) v → spPut (vM mi ma) z ii v 1 (vM (va_up mi 0 0) (va_up ma 16 (va_up (ma 16) (60 * z + ii).toNat x))) ∧ MOk (va_up mi 0 0) (va_up ma 16 (va_up (ma 16) (60 * z + ii).toNat x)) := by
        intro x hx
        unfold spPut; rw [if_neg (by omega), hla, hle, if_neg h0.1, if_neg h0.1, if_neg (by omega), if_neg (not_not_intro h0.2)]
        refine ⟨⟨rfl, ?_⟩, MOk_sh hO (fun k hk => up_n hk) (fun k h1 h2 h3 h4 => up_n h3) (fun i => by rw [up_n (by decide), up_n (by decide)]; exact hSh i) ?_ (by rw [up_n (by decide)]; exact hHd) (by rw [up_s]; omega)⟩
        · rw [vM_sh (mi := mi) (ma := ma) (l := lanM ma z.toNat) (n := lenM ma z.toNat) (g := va_up (numM ma z.toNat) ii.toNat x) hj (fun k hk => up_n hk) (fun k h1 h2 h3 h4 => up_n h3) (fun i hi => by rw [up_n (by decide)]) (fun i hi => by rw [up_n (by decide)]) (fun i => (hSh i).1.2) (fun i hi k hk => by rw [up_s, up_n (by omega)]) (by rw [lanM_in hj, lanM_in hj, up_n (by decide), up_n (by decide)]) (by rw [lenM_in hj, lenM_in hj, up_n (by decide)]) ?_, up_s, up_id, up_id, hx]
          · rfl
          · have e1 : lenM (va_up ma 16 (va_up (ma 16) (60 * z + ii).toNat x)) z.toNat = lenM ma z.toNat := by unfold lenM; rw [up_n (by decide)]
            rw [numM_in hj, numM_in hj, e1, up_s, ← nrm_up (by rw [lenM_in hj, if_neg h0.1]; omega)]
            congr 1
            funext k
            by_cases hk : k = ii.toNat
            · rw [hk, up_s, hix, up_s]
            · rw [up_n hk, up_n (by omega)]
        · rw [up_s]
          exact up_rng32 hSn (by rw [hx]; exact cutL_rng _ hv)
      rw [he_76.2, he_76.1]
      refine key _ ?_
      unfold cutL
      first
        | rw [if_pos (by omega)]
        | rw [if_neg (by omega), if_pos (by omega)]
        | rw [if_neg (by omega), if_neg (by omega)]), rfl, rfl⟩
        · refine z_iload_n (j := 3) dX8_put_67 rfl rfl ?_
          refine z_i2s dX8_put_68 ?_
          refine z_goto (tgt := 73) dX8_put_69 (by decide) ?_
          refine z_iast (i := 16) (g := ma 16) 0 (cM cI cJ cZ q mi (va_up ma 16 (va_up (ma 16) ((60 * z) + ii).toNat (cut16 v)))) dX8_put_73 (by omega) rfl rfl (by omega) (by omega) (by omega) la_16 ?_
          refine z_aload_n (j := 0) dX8_put_74 rfl rfl ?_
          refine z_iconst dX8_put_75 ?_
          refine z_callVi (i := 0) (ci := 8) (As := [.int (iI 1)]) (rest := []) (c_X8_refused  hq ) dX8_put_76 gX8_put_X8_refused rfl cd_X8_refused ⟨Nat.le_of_ble_eq_true rfl, Nat.le_of_ble_eq_true rfl⟩ rfl rfl (by omega) rfl rfl rfl (Nat.le_of_ble_eq_true rfl) ⟨Nat.zero_le _, Nat.zero_le _⟩ (fun r_76 g_76 hp_76 => ?_)
          obtain ⟨e_76, mi_76, he_76, rfl, rfl⟩ := hp_76
          exact z_iret dX8_put_79 ⟨_, _, _, (by
      have hla : aLan (vM mi ma) z.toNat = if ma 14 z.toNat < 0 then -1 else ma 15 z.toNat := lanM_in (by omega)
      have hle : aLen (vM mi ma) z.toNat = if ma 14 z.toNat < 0 then 0 else ma 14 z.toNat := lenM_in (by omega)
      have hj : z.toNat < 4 := by omega
      have hix : (60 * z + ii).toNat = 60 * z.toNat + ii.toNat := by omega
      have key : ∀ x : Int, x = cutL (ma 15 z.toNat) v → spPut (vM mi ma) z ii v 1 (vM (va_up mi 0 0) (va_up ma 16 (va_up (ma 16) (60 * z + ii).toNat x))) ∧ MOk (va_up mi 0 0) (va_up ma 16 (va_up (ma 16) (60 * z + ii).toNat x)) := by
        intro x hx
        unfold spPut; rw [if_neg (by omega), hla, hle, if_neg h0.1, if_neg h0.1, if_neg (by omega), if_neg (not_not_intro h0.2)]
        refine ⟨⟨rfl, ?_⟩, MOk_sh hO (fun k hk => up_n hk) (fun k h1 h2 h3 h4 => up_n h3) (fun i => by rw [up_n (by decide), up_n (by decide)]; exact hSh i) ?_ (by rw [up_n (by decide)]; exact hHd) (by rw [up_s]; omega)⟩
        · rw [vM_sh (mi := mi) (ma := ma) (l := lanM ma z.toNat) (n := lenM ma z.toNat) (g := va_up (numM ma z.toNat) ii.toNat x) hj (fun k hk => up_n hk) (fun k h1 h2 h3 h4 => up_n h3) (fun i hi => by rw [up_n (by decide)]) (fun i hi => by rw [up_n (by decide)]) (fun i => (hSh i).1.2) (fun i hi k hk => by rw [up_s, up_n (by omega)]) (by rw [lanM_in hj, lanM_in hj, up_n (by decide), up_n (by decide)]) (by rw [lenM_in hj, lenM_in hj, up_n (by decide)]) ?_, up_s, up_id, up_id, hx]
          · rfl
          · have e1 : lenM (va_up ma 16 (va_up (ma 16) (60 * z + ii).toNat x)) z.toNat = lenM ma z.toNat := by unfold lenM; rw [up_n (by decide)]
            rw [numM_in hj, numM_in hj, e1, up_s, ← nrm_up (by rw [lenM_in hj, if_neg h0.1]; omega)]
            congr 1
            funext k
            by_cases hk : k = ii.toNat
            · rw [hk, up_s, hix, up_s]
            · rw [up_n hk, up_n (by omega)]
        · rw [up_s]
          exact up_rng32 hSn (by rw [hx]; exact cutL_rng _ hv)
      rw [he_76.2, he_76.1]
      refine key _ ?_
      unfold cutL
      first
        | rw [if_pos (by omega)]
        | rw [if_neg (by omega), if_pos (by omega)]
        | rw [if_neg (by omega), if_neg (by omega)]), rfl, rfl⟩
      · refine z_iload_n (j := 3) dX8_put_52 rfl rfl ?_
        refine z_i2b dX8_put_53 ?_
        refine z_goto (tgt := 73) dX8_put_54 (by decide) ?_
        refine z_iast (i := 16) (g := ma 16) 0 (cM cI cJ cZ q mi (va_up ma 16 (va_up (ma 16) ((60 * z) + ii).toNat (cut8 v)))) dX8_put_73 (by omega) rfl rfl (by omega) (by omega) (by omega) la_16 ?_
        refine z_aload_n (j := 0) dX8_put_74 rfl rfl ?_
        refine z_iconst dX8_put_75 ?_
        refine z_callVi (i := 0) (ci := 8) (As := [.int (iI 1)]) (rest := []) (c_X8_refused  hq ) dX8_put_76 gX8_put_X8_refused rfl cd_X8_refused ⟨Nat.le_of_ble_eq_true rfl, Nat.le_of_ble_eq_true rfl⟩ rfl rfl (by omega) rfl rfl rfl (Nat.le_of_ble_eq_true rfl) ⟨Nat.zero_le _, Nat.zero_le _⟩ (fun r_76 g_76 hp_76 => ?_)
        obtain ⟨e_76, mi_76, he_76, rfl, rfl⟩ := hp_76
        exact z_iret dX8_put_79 ⟨_, _, _, (by
      have hla : aLan (vM mi ma) z.toNat = if ma 14 z.toNat < 0 then -1 else ma 15 z.toNat := lanM_in (by omega)
      have hle : aLen (vM mi ma) z.toNat = if ma 14 z.toNat < 0 then 0 else ma 14 z.toNat := lenM_in (by omega)
      have hj : z.toNat < 4 := by omega
      have hix : (60 * z + ii).toNat = 60 * z.toNat + ii.toNat := by omega
      have key : ∀ x : Int, x = cutL (ma 15 z.toNat) v → spPut (vM mi ma) z ii v 1 (vM (va_up mi 0 0) (va_up ma 16 (va_up (ma 16) (60 * z + ii).toNat x))) ∧ MOk (va_up mi 0 0) (va_up ma 16 (va_up (ma 16) (60 * z + ii).toNat x)) := by
        intro x hx
        unfold spPut; rw [if_neg (by omega), hla, hle, if_neg h0.1, if_neg h0.1, if_neg (by omega), if_neg (not_not_intro h0.2)]
        refine ⟨⟨rfl, ?_⟩, MOk_sh hO (fun k hk => up_n hk) (fun k h1 h2 h3 h4 => up_n h3) (fun i => by rw [up_n (by decide), up_n (by decide)]; exact hSh i) ?_ (by rw [up_n (by decide)]; exact hHd) (by rw [up_s]; omega)⟩
        · rw [vM_sh (mi := mi) (ma := ma) (l := lanM ma z.toNat) (n := lenM ma z.toNat) (g := va_up (numM ma z.toNat) ii.toNat x) hj (fun k hk => up_n hk) (fun k h1 h2 h3 h4 => up_n h3) (fun i hi => by rw [up_n (by decide)]) (fun i hi => by rw [up_n (by decide)]) (fun i => (hSh i).1.2) (fun i hi k hk => by rw [up_s, up_n (by omega)]) (by rw [lanM_in hj, lanM_in hj, up_n (by decide), up_n (by decide)]) (by rw [lenM_in hj, lenM_in hj, up_n (by decide)]) ?_, up_s, up_id, up_id, hx]
          · rfl
          · have e1 : lenM (va_up ma 16 (va_up (ma 16) (60 * z + ii).toNat x)) z.toNat = lenM ma z.toNat := by unfold lenM; rw [up_n (by decide)]
            rw [numM_in hj, numM_in hj, e1, up_s, ← nrm_up (by rw [lenM_in hj, if_neg h0.1]; omega)]
            congr 1
            funext k
            by_cases hk : k = ii.toNat
            · rw [hk, up_s, hix, up_s]
            · rw [up_n hk, up_n (by omega)]
        · rw [up_s]
          exact up_rng32 hSn (by rw [hx]; exact cutL_rng _ hv)
      rw [he_76.2, he_76.1]
      refine key _ ?_
      unfold cutL
      first
        | rw [if_pos (by omega)]
        | rw [if_neg (by omega), if_pos (by omega)]
        | rw [if_neg (by omega), if_neg (by omega)]), rfl, rfl⟩
    · refine z_aload_n (j := 0) dX8_put_22 rfl rfl ?_
      refine z_aload_n (j := 0) dX8_put_23 rfl rfl ?_
      refine z_iload_n (j := 1) dX8_put_24 rfl rfl ?_
      refine z_iload_n (j := 2) dX8_put_25 rfl rfl ?_
      refine z_callVi (i := 0) (ci := 8) (As := [.int (iI z), .int (iI ii)]) (rest := [.ref (q 0)]) (c_X8_noCell  hq hO (by omega) (by omega)) dX8_put_26 gX8_put_X8_noCell rfl cd_X8_noCell ⟨Nat.le_of_ble_eq_true rfl, Nat.le_of_ble_eq_true rfl⟩ rfl rfl (by omega) rfl rfl rfl (Nat.le_of_ble_eq_true rfl) ⟨Nat.zero_le _, Nat.zero_le _⟩ (fun r_26 g_26 hp_26 => ?_)
      obtain ⟨⟨e_26, he_26, rfl⟩, rfl⟩ := hp_26
      have he26 : e_26 = e_16 := by rw [he_26, he_16]
      refine z_callVi (i := 0) (ci := 8) (As := [.int (iI e_26)]) (rest := []) (c_X8_failed  hq ) dX8_put_29 gX8_put_X8_failed rfl cd_X8_failed ⟨Nat.le_of_ble_eq_true rfl, Nat.le_of_ble_eq_true rfl⟩ rfl rfl (by omega) rfl rfl rfl (Nat.le_of_ble_eq_true rfl) ⟨Nat.zero_le _, Nat.zero_le _⟩ (fun r_29 g_29 hp_29 => ?_)
      obtain ⟨e_29, mi_29, he_29, rfl, rfl⟩ := hp_29
      exact z_iret dX8_put_32 ⟨_, _, _, (by
      have hla : aLan (vM mi ma) z.toNat = if ma 14 z.toNat < 0 then -1 else ma 15 z.toNat := lanM_in (by omega)
      have hle : aLen (vM mi ma) z.toNat = if ma 14 z.toNat < 0 then 0 else ma 14 z.toNat := lenM_in (by omega)
      unfold spPut; rw [if_neg (by omega), hla, hle, he_29.2, he26]
      by_cases q1 : ma 14 z.toNat < 0
      · rw [if_pos q1] at he_16
        rw [if_pos q1, if_pos rfl, he_16]; exact ⟨⟨by omega, vM_fa⟩, MOk_fa hO (by omega)⟩
      · rw [if_neg q1] at he_16
        by_cases q2 : 0 ≤ ii ∧ ii < ma 14 z.toNat
        · rw [if_pos q2] at he_16; omega
        · rw [if_neg q2] at he_16
          rw [if_neg q1, if_neg q1, if_neg (by omega), if_pos q2, he_16]; exact ⟨⟨by omega, vM_fa⟩, MOk_fa hO (by omega)⟩), rfl, rfl⟩
