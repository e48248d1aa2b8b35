set_option maxHeartbeats 400000 in
set_option maxRecDepth 100000 in
theorem c_X8_in {l : Launch} {D : va_G} {cI cJ cZ cR : ClassId} {q : Nat → Nat} {mi : Nat → Int} {ma : Nat → Nat → Int} (hq : qOk 18 q) {x1 x2 x3 : Int} (h1 : -9223372036854775808 ≤ x1 ∧ x1 < 9223372036854775808) (h2 : -9223372036854775808 ≤ x2 ∧ x2 < 9223372036854775808) (h3 : -9223372036854775808 ≤ x3 ∧ x3 < 9223372036854775808) : Cti l D vwCl (tysC cI cJ cZ cR) 18 q yX8_in wsX8_in ({ frames := 0, cells := 0, slots := 0, locals := 0 } : Room) [.long (lI x1), .long (lI x2), .long (lI x3)] (cM cI cJ cZ q mi ma) (fun (r : Int32) (g : Nat → va_E) => (((x2 ≤ x1 ∧ x1 ≤ x3) ∧ r = iI 1) ∨ (¬ (x2 ≤ x1 ∧ x1 ≤ x3) ∧ r = iI 0)) ∧ g = (cM cI cJ cZ q mi ma)) := by
  refine Cti.of (cc := cX8_in) (nL := 6) (own := RX8) (ret := (some .boolean)) (by decide) rfl rfl hq (Nat.le_of_ble_eq_true rfl) (fun p e s m args below meth c => ?_)
  refine z_lload_n (j := 0) dX8_in_0 rfl rfl ?_
  refine z_lload_n (j := 1) dX8_in_1 rfl rfl ?_
  refine z_lcmp dX8_in_2 (by omega) (by omega) (fun r_2 hr_2 => ?_)
  refine z_if_lt (tgt := 17) dX8_in_3 (by decide) (by omega) (fun c_3 => ?_) (fun c_3 => ?_)
  · refine z_iconst dX8_in_17 ?_
    exact z_zret dX8_in_18 (Or.inl rfl) ⟨Or.inr ⟨(by omega), rfl⟩, rfl⟩
  · refine z_lload_n (j := 0) dX8_in_6 rfl rfl ?_
    refine z_lload (j := 2) dX8_in_7 rfl ?_
    refine z_lcmp dX8_in_9 (by omega) (by omega) (fun r_9 hr_9 => ?_)
    refine z_if_gt (tgt := 17) dX8_in_10 (by decide) (by omega) (fun c_10 => ?_) (fun c_10 => ?_)
    · refine z_iconst dX8_in_17 ?_
      exact z_zret dX8_in_18 (Or.inl rfl) ⟨Or.inr ⟨(by omega), rfl⟩, rfl⟩
    · refine z_iconst dX8_in_13 ?_
      refine z_goto (tgt := 18) dX8_in_14 (by decide) ?_
      exact z_zret dX8_in_18 (Or.inr rfl) ⟨Or.inl ⟨(by omega), rfl⟩, rfl⟩
theorem m_X8_lost_C63 : Cond.constantLong RX8 63 (lI (-9223372036854775808)) ∈ wsX8_lost := List.mem_of_getElem? (i := 1) (by decide +kernel)
set_option maxHeartbeats 400000 in
set_option maxRecDepth 100000 in
theorem c_X8_lost {l : Launch} {D : va_G} {cI cJ cZ cR : ClassId} {q : Nat → Nat} {mi : Nat → Int} {ma : Nat → Nat → Int} (hq : qOk 18 q)   : Ctl l D vwCl (tysC cI cJ cZ cR) 18 q yX8_lost wsX8_lost ({ frames := 0, cells := 0, slots := 0, locals := 0 } : Room) [] (cM cI cJ cZ q mi ma) (fun (r : Int64) (g : Nat → va_E) => (∃ e : Int, (e = -9223372036854775808) ∧ r = lI e) ∧ g = (cM cI cJ cZ q mi ma)) := by
  refine Ctl.of (cc := cX8_lost) (nL := 0) (own := RX8) (ret := (some .long)) (by decide) rfl rfl hq (Nat.le_of_ble_eq_true rfl) (fun p e s m args below meth c => ?_)
  refine z_ldc2 dX8_lost_0 m_X8_lost_C63 ?_
  exact z_lret dX8_lost_3 ⟨⟨_, (rfl), rfl⟩, rfl⟩
theorem m_X8_tens_C65 : Cond.constantLong RX8 65 (lI (10)) ∈ wsX8_tens := List.mem_of_getElem? (i := 1) (by decide +kernel)
set_option maxHeartbeats 400000 in
set_option maxRecDepth 100000 in
theorem c_X8_tens {l : Launch} {D : va_G} {cI cJ cZ cR : ClassId} {q : Nat → Nat} {mi : Nat → Int} {ma : Nat → Nat → Int} (hq : qOk 18 q) {z : Int} (hz : 0 ≤ z ∧ z ≤ 100) : Ctl l D vwCl (tysC cI cJ cZ cR) 18 q yX8_tens wsX8_tens ({ frames := 0, cells := 0, slots := 0, locals := 0 } : Room) [.int (iI z)] (cM cI cJ cZ q mi ma) (fun (r : Int64) (g : Nat → va_E) => (∃ e : Int, (e = 10 ^ z.toNat) ∧ r = lI e) ∧ g = (cM cI cJ cZ q mi ma)) := by
  refine Ctl.of (cc := cX8_tens) (nL := 4) (own := RX8) (ret := (some .long)) (by decide) rfl rfl hq (Nat.le_of_ble_eq_true rfl) (fun p e s m args below meth c => ?_)
  refine z_lconst (z := 1) dX8_tens_0 (by decide) ?_
  refine z_lstore_n [(1, .long (lI 1)), (0, .int (iI z))] dX8_tens_1 rfl (by decide) rfl ?_
  refine z_iconst dX8_tens_2 ?_
  refine z_istore_n [(3, .int (iI 0)), (1, .long (lI 1)), (0, .int (iI z))] dX8_tens_3 rfl (by decide) rfl ?_
  have hl_4 : ∀ (N_4 : Nat) (u : Int) (ac : Int), (101 - u).toNat < N_4 → (0 ≤ u ∧ u ≤ z) → (ac = 10 ^ u.toNat) → ZMl l D vwCl (tysC cI cJ cZ cR) 18 q ({ frames := 0, cells := 0, slots := 0, locals := 0 } : Room) cX8_tens 4 RX8 wsX8_tens (some .long) (fun (r : Int64) (g : Nat → va_E) => (∃ e : Int, (e = 10 ^ z.toNat) ∧ r = lI e) ∧ g = (cM cI cJ cZ q mi ma)) p e s m args below meth c (cM cI cJ cZ q mi ma) 4 [(3, .int (iI u)), (1, .long (lI ac)), (0, .int (iI z))] [] := by
    intro N_4
    induction N_4 with
    | zero => intro u ac hm; exact absurd hm (Nat.not_lt_zero _)
    | succ N_4 ih_4 =>
      intro u ac hm_4 hu hac
      refine z_iload_n (j := 0) dX8_tens_4 rfl rfl ?_
      refine z_iload_n (j := 2) dX8_tens_5 rfl rfl ?_
      refine z_icmp_ge (tgt := 21) dX8_tens_6 (by decide) (by omega) (by omega) (fun c_6 => ?_) (fun c_6 => ?_)
      · refine z_lload_n (j := 1) dX8_tens_21 rfl rfl ?_
        exact z_lret dX8_tens_22 ⟨⟨_, (by rw [hac, show u.toNat = z.toNat by omega]), rfl⟩, rfl⟩
      · refine z_lload_n (j := 1) dX8_tens_9 rfl rfl ?_
        refine z_ldc2 dX8_tens_10 m_X8_tens_C65 ?_
        refine z_lmul dX8_tens_13 ?_
        refine z_lstore_n [(1, .long (lI (ac * 10))), (3, .int (iI u)), (0, .int (iI z))] dX8_tens_14 rfl (by decide) rfl ?_
        refine z_iinc (j := 1) [(3, .int (iI (u + 1))), (1, .long (lI (ac * 10))), (0, .int (iI z))] dX8_tens_15 rfl (by decide) rfl ?_
        refine z_goto (tgt := 4) dX8_tens_18 (by decide) ?_
        exact z_sub [(3, .int (iI (u + 1))), (1, .long (lI (ac * 10))), (0, .int (iI z))] [0, 1, 2] rfl (ih_4 (u + 1) (ac * 10) (by omega) (by omega) (by rw [stepN hu.1, Int.pow_succ, hac]))
  exact z_sub [(3, .int (iI 0)), (1, .long (lI 1)), (0, .int (iI z))] [0, 1, 2] rfl (hl_4 _ 0 1 (Nat.lt_succ_self _) (by omega) (rfl))
set_option maxHeartbeats 400000 in
set_option maxRecDepth 100000 in
theorem c_X8_told {l : Launch} {D : va_G} {cI cJ cZ cR : ClassId} {q : Nat → Nat} {mi : Nat → Int} {ma : Nat → Nat → Int} (hq : qOk 18 q) {up lo wh : Int} (hup : 0 ≤ up ∧ up < 4611686018427387904) (hlo : 0 < lo ∧ lo < 4611686018427387904) (hwh : -2147483648 ≤ wh ∧ wh < 2147483648) : Ctl l D vwCl (tysC cI cJ cZ cR) 18 q yX8_told wsX8_told ({ frames := 0, cells := 0, slots := 0, locals := 0 } : Room) [.long (lI up), .long (lI lo), .int (iI wh)] (cM cI cJ cZ q mi ma) (fun (r : Int64) (g : Nat → va_E) => (∃ e : Int, (e = (if wh = 0 then up else lo) / (Int.gcd up lo : Int)) ∧ r = lI e) ∧ g = (cM cI cJ cZ q mi ma)) := by
  refine Ctl.of (cc := cX8_told) (nL := 11) (own := RX8) (ret := (some .long)) (by decide) rfl rfl hq (Nat.le_of_ble_eq_true rfl) (fun p e s m args below meth c => ?_)
  have hgp : 0 < Int.gcd up lo := Int.gcd_pos_of_ne_zero_right up (by omega)
  refine z_lload_n (j := 0) dX8_told_0 rfl rfl ?_
  refine z_lstore [(5, .long (lI up)), (0, .long (lI up)), (2, .long (lI lo)), (4, .int (iI wh))] dX8_told_1 (by decide) rfl ?_
  refine z_lload_n (j := 2) dX8_told_3 rfl rfl ?_
  refine z_lstore [(7, .long (lI lo)), (5, .long (lI up)), (0, .long (lI up)), (2, .long (lI lo)), (4, .int (iI wh))] dX8_told_4 (by decide) rfl ?_
  have hl_6 : ∀ (N_6 : Nat) (dv : Int) (rs : Int), rs.toNat < N_6 → (0 ≤ dv ∧ dv < 4611686018427387904) → (0 ≤ rs ∧ rs < 4611686018427387904) → (Int.gcd dv rs = Int.gcd up lo) → ZMl l D vwCl (tysC cI cJ cZ cR) 18 q ({ frames := 0, cells := 0, slots := 0, locals := 0 } : Room) cX8_told 11 RX8 wsX8_told (some .long) (fun (r : Int64) (g : Nat → va_E) => (∃ e : Int, (e = (if wh = 0 then up else lo) / (Int.gcd up lo : Int)) ∧ r = lI e) ∧ g = (cM cI cJ cZ q mi ma)) p e s m args below meth c (cM cI cJ cZ q mi ma) 6 [(7, .long (lI rs)), (5, .long (lI dv)), (0, .long (lI up)), (2, .long (lI lo)), (4, .int (iI wh))] [] := by
    intro N_6
    induction N_6 with
    | zero => intro dv rs hm; exact absurd hm (Nat.not_lt_zero _)
    | succ N_6 ih_6 =>
      intro dv rs hm_6 hdv hrs hg
      refine z_lload (j := 0) dX8_told_6 rfl ?_
      refine z_lconst (z := 0) dX8_told_8 (by decide) ?_
      refine z_lcmp dX8_told_9 (by omega) (by decide) (fun r_9 hr_9 => ?_)
      refine z_if_eq (tgt := 31) dX8_told_10 (by decide) (by omega) (fun c_10 => ?_) (fun c_10 => ?_)
      · have hz : rs = 0 := by omega
        have hdg : (Int.gcd up lo : Int) = dv := by rw [← hg, hz, Int.gcd_zero]; omega
        refine z_iload (j := 4) dX8_told_31 rfl ?_
        refine z_if_ne (tgt := 40) dX8_told_33 (by decide) (by omega) (fun c_33 => ?_) (fun c_33 => ?_)
        · refine z_lload_n (j := 3) dX8_told_40 rfl rfl ?_
          refine z_lload (j := 1) dX8_told_41 rfl ?_
          refine z_ldiv dX8_told_43 (by omega) (by omega) ?_
          exact z_lret dX8_told_44 ⟨⟨_, (by first | rw [if_pos (by omega), hdg] | rw [if_neg (by omega), hdg]), rfl⟩, rfl⟩
        · refine z_lload_n (j := 2) dX8_told_36 rfl rfl ?_
          refine z_goto (tgt := 41) dX8_told_37 (by decide) ?_
          refine z_lload (j := 1) dX8_told_41 rfl ?_
          refine z_ldiv dX8_told_43 (by omega) (by omega) ?_
          exact z_lret dX8_told_44 ⟨⟨_, (by first | rw [if_pos (by omega), hdg] | rw [if_neg (by omega), hdg]), rfl⟩, rfl⟩
      · refine z_lload (j := 1) dX8_told_13 rfl ?_
        refine z_lload (j := 0) dX8_told_15 rfl ?_
        refine z_lrem dX8_told_17 (by omega) (by omega) ?_
        refine z_lstore [(9, .long (lI (dv % rs))), (7, .long (lI rs)), (5, .long (lI dv)), (0, .long (lI up)), (2, .long (lI lo)), (4, .int (iI wh))] dX8_told_18 (by decide) rfl ?_
        refine z_lload (j := 1) dX8_told_20 rfl ?_
        refine z_lstore [(5, .long (lI rs)), (9, .long (lI (dv % rs))), (7, .long (lI rs)), (0, .long (lI up)), (2, .long (lI lo)), (4, .int (iI wh))] dX8_told_22 (by decide) rfl ?_
        refine z_lload (j := 1) dX8_told_24 rfl ?_
        refine z_lstore [(7, .long (lI (dv % rs))), (5, .long (lI rs)), (9, .long (lI (dv % rs))), (0, .long (lI up)), (2, .long (lI lo)), (4, .int (iI wh))] dX8_told_26 (by decide) rfl ?_
        refine z_goto (tgt := 6) dX8_told_28 (by decide) ?_
        exact z_sub [(7, .long (lI (dv % rs))), (5, .long (lI rs)), (0, .long (lI up)), (2, .long (lI lo)), (4, .int (iI wh))] [0, 1, 3, 4, 5] rfl (ih_6 rs (dv % rs) (by have h1 := Int.emod_nonneg dv (show rs ≠ 0 by omega); have h2 := Int.emod_lt_of_pos dv (show 0 < rs by omega); omega) (⟨hrs.1, hrs.2⟩) (by have h1 := Int.emod_nonneg dv (show rs ≠ 0 by omega); have h2 := Int.emod_lt_of_pos dv (show 0 < rs by omega); omega) (by rw [gcd_step dv rs (by omega)]; exact hg))
  exact z_sub [(7, .long (lI lo)), (5, .long (lI up)), (0, .long (lI up)), (2, .long (lI lo)), (4, .int (iI wh))] [0, 1, 2, 3, 4] rfl (hl_6 _ up lo (Nat.lt_succ_self _) (by omega) (by omega) (rfl))
theorem m_X8_refused_f67 : Cond.fieldLink RX8 67 "PoleBehindModel" "fault" "I" ∈ wsX8_refused := List.mem_of_getElem? (i := 1) rfl
theorem in_X8_refused_X8 : ∀ w ∈ wsX80, w ∈ wsX8_refused := fun _ h => List.mem_cons_of_mem _ (List.mem_append_right _ h)
set_option maxHeartbeats 400000 in
set_option maxRecDepth 100000 in
theorem c_X8_refused {l : Launch} {D : va_G} {cI cJ cZ cR : ClassId} {q : Nat → Nat} {mi : Nat → Int} {ma : Nat → Nat → Int} (hq : qOk 18 q) {z : Int}  : Cti l D vwCl (tysC cI cJ cZ cR) 18 q yX8_refused wsX8_refused ({ frames := 0, cells := 0, slots := 0, locals := 0 } : Room) [.ref (q 0), .int (iI z)] (cM cI cJ cZ q mi ma) (fun (r : Int32) (g : Nat → va_E) => ∃ (e : Int) (mi' : Nat → Int), (e = z ∧ mi' = va_up mi 0 0) ∧ r = iI e ∧ g = (cM cI cJ cZ q mi' ma)) := by
  refine Cti.of (cc := cX8_refused) (nL := 2) (own := RX8) (ret := (some .int)) (by decide) rfl rfl hq (Nat.le_of_ble_eq_true rfl) (fun p e s m args below meth c => ?_)
  refine z_aload_n (j := 0) dX8_refused_0 rfl rfl ?_
  refine z_iconst dX8_refused_1 ?_
  refine z_putf (i := 0) (ci := 8) (k := 0) (cM cI cJ cZ q (va_up mi 0 0) ma) dX8_refused_2 m_X8_refused_f67 in_X8_refused_X8 rfl (by decide) rfl (by omega) rfl tyX8_ok nmX8 rfl rfl rfl (Nat.le_of_ble_eq_true rfl) lm_0 ?_
  refine z_iload_n (j := 1) dX8_refused_5 rfl rfl ?_
  exact z_iret dX8_refused_6 ⟨_, _, (⟨rfl, rfl⟩), rfl, rfl⟩
theorem m_X8_failed_f67 : Cond.fieldLink RX8 67 "PoleBehindModel" "fault" "I" ∈ wsX8_failed := List.mem_of_getElem? (i := 1) rfl
theorem in_X8_failed_X8 : ∀ w ∈ wsX80, w ∈ wsX8_failed := fun _ h => List.mem_cons_of_mem _ (List.mem_append_right _ h)
set_option maxHeartbeats 400000 in
set_option maxRecDepth 100000 in
theorem c_X8_failed {l : Launch} {D : va_G} {cI cJ cZ cR : ClassId} {q : Nat → Nat} {mi : Nat → Int} {ma : Nat → Nat → Int} (hq : qOk 18 q) {z : Int}  : Cti l D vwCl (tysC cI cJ cZ cR) 18 q yX8_failed wsX8_failed ({ frames := 0, cells := 0, slots := 0, locals := 0 } : Room) [.ref (q 0), .int (iI z)] (cM cI cJ cZ q mi ma) (fun (r : Int32) (g : Nat → va_E) => ∃ (e : Int) (mi' : Nat → Int), (e = -10 - z ∧ mi' = va_up mi 0 z) ∧ r = iI e ∧ g = (cM cI cJ cZ q mi' ma)) := by
  refine Cti.of (cc := cX8_failed) (nL := 2) (own := RX8) (ret := (some .int)) (by decide) rfl rfl hq (Nat.le_of_ble_eq_true rfl) (fun p e s m args below meth c => ?_)
  refine z_aload_n (j := 0) dX8_failed_0 rfl rfl ?_
  refine z_iload_n (j := 1) dX8_failed_1 rfl rfl ?_
  refine z_putf (i := 0) (ci := 8) (k := 0) (cM cI cJ cZ q (va_up mi 0 z) ma) dX8_failed_2 m_X8_failed_f67 in_X8_failed_X8 rfl (by decide) rfl (by omega) rfl tyX8_ok nmX8 rfl rfl rfl (Nat.le_of_ble_eq_true rfl) lm_0 ?_
  refine z_bipush dX8_failed_5 (by decide) ?_
  refine z_iload_n (j := 1) dX8_failed_7 rfl rfl ?_
  refine z_isub dX8_failed_8 ?_
  exact z_iret dX8_failed_9 ⟨_, _, (⟨rfl, rfl⟩), rfl, rfl⟩
theorem m_X8_failedLong_f67 : Cond.fieldLink RX8 67 "PoleBehindModel" "fault" "I" ∈ wsX8_failedLong := List.mem_of_getElem? (i := 1) rfl
theorem in_X8_failedLong_X8 : ∀ w ∈ wsX80, w ∈ wsX8_failedLong := fun _ h => List.mem_cons_of_mem _ (List.mem_append_right _ h)
theorem cd_X8_lost : yX8_lost.cls ≠ "java/lang/invoke/MethodHandle" ∧ yX8_lost.cls ≠ "java/lang/invoke/VarHandle" ∧ (parseMethodDescriptor yX8_lost.desc).map (fun d => d.parameters.length) = some 0 := ⟨by decide +kernel, by decide +kernel, by decide +kernel⟩
set_option maxHeartbeats 400000 in
set_option maxRecDepth 100000 in
theorem c_X8_failedLong {l : Launch} {D : va_G} {cI cJ cZ cR : ClassId} {q : Nat → Nat} {mi : Nat → Int} {ma : Nat → Nat → Int} (hq : qOk 18 q) {z : Int}  : Ctl l D vwCl (tysC cI cJ cZ cR) 18 q yX8_failedLong wsX8_failedLong ({ frames := 1, cells := 0, slots := 0, locals := 19 } : Room) [.ref (q 0), .int (iI z)] (cM cI cJ cZ q mi ma) (fun (r : Int64) (g : Nat → va_E) => ∃ (e : Int) (mi' : Nat → Int), (e = -9223372036854775808 ∧ mi' = va_up mi 0 z) ∧ r = lI e ∧ g = (cM cI cJ cZ q mi' ma)) := by
  refine Ctl.of (cc := cX8_failedLong) (nL := 2) (own := RX8) (ret := (some .long)) (by decide) rfl rfl hq (Nat.le_of_ble_eq_true rfl) (fun p e s m args below meth c => ?_)
  refine z_aload_n (j := 0) dX8_failedLong_0 rfl rfl ?_
  refine z_iload_n (j := 1) dX8_failedLong_1 rfl rfl ?_
  refine z_putf (i := 0) (ci := 8) (k := 0) (cM cI cJ cZ q (va_up mi 0 z) ma) dX8_failedLong_2 m_X8_failedLong_f67 in_X8_failedLong_X8 rfl (by decide) rfl (by omega) rfl tyX8_ok nmX8 rfl rfl rfl (Nat.le_of_ble_eq_true rfl) lm_0 ?_
  refine z_callSl (As := []) (rest := []) (c_X8_lost  hq ) dX8_failedLong_5 gX8_failedLong_X8_lost rfl cd_X8_lost ⟨Nat.le_of_ble_eq_true rfl, Nat.le_of_ble_eq_true rfl⟩ rfl rfl rfl (Nat.le_of_ble_eq_true rfl) ⟨Nat.zero_le _, Nat.zero_le _⟩ (fun r_5 g_5 hp_5 => ?_)
  obtain ⟨⟨_, rfl, rfl⟩, rfl⟩ := hp_5
  exact z_lret dX8_failedLong_8 ⟨_, _, (⟨rfl, rfl⟩), rfl, rfl⟩
theorem m_X8_noPlace_f75 : Cond.fieldLink RX8 75 "PoleBehindModel" "cells" "I" ∈ wsX8_noPlace := List.mem_of_getElem? (i := 1) rfl
theorem in_X8_noPlace_X8 : ∀ w ∈ wsX80, w ∈ wsX8_noPlace := fun _ h => List.mem_cons_of_mem _ (List.mem_append_right _ h)
theorem cd_X8_in : yX8_in.cls ≠ "java/lang/invoke/MethodHandle" ∧ yX8_in.cls ≠ "java/lang/invoke/VarHandle" ∧ (parseMethodDescriptor yX8_in.desc).map (fun d => d.parameters.length) = some 3 := ⟨by decide +kernel, by decide +kernel, by decide +kernel⟩
set_option maxHeartbeats 400000 in
set_option maxRecDepth 100000 in
theorem c_X8_noPlace {l : Launch} {D : va_G} {cI cJ cZ cR : ClassId} {q : Nat → Nat} {mi : Nat → Int} {ma : Nat → Nat → Int} (hq : qOk 18 q) {z : Int} (hR : MRv mi ma) (hz : -2147483648 ≤ z ∧ z < 2147483648) : Cti l D vwCl (tysC cI cJ cZ cR) 18 q yX8_noPlace wsX8_noPlace ({ frames := 1, cells := 0, slots := 0, locals := 25 } : Room) [.ref (q 0), .int (iI z)] (cM cI cJ cZ q mi ma) (fun (r : Int32) (g : Nat → va_E) => (((¬ (0 ≤ z ∧ z < mi 1)) ∧ r = iI 1) ∨ (¬ (¬ (0 ≤ z ∧ z < mi 1)) ∧ r = iI 0)) ∧ g = (cM cI cJ cZ q mi ma)) := by
  refine Cti.of (cc := cX8_noPlace) (nL := 2) (own := RX8) (ret := (some .boolean)) (by decide) rfl rfl hq (Nat.le_of_ble_eq_true rfl) (fun p e s m args below meth c => ?_)
  obtain ⟨hN, hP, hK, hM, hD, hB⟩ := id hR
  have hRM := MRv_M hR
  have hnn : rN (rvM mi ma) = mi 1 := rfl
  refine z_iload_n (j := 1) dX8_noPlace_0 rfl rfl ?_
  refine z_i2l dX8_noPlace_1 (by omega) ?_
  refine z_lconst (z := 0) dX8_noPlace_2 (by decide) ?_
  refine z_aload_n (j := 0) dX8_noPlace_3 rfl rfl ?_
  refine z_getf (i := 0) (ci := 8) (k := 1) (v := .int (iI (mi 1))) dX8_noPlace_4 m_X8_noPlace_f75 in_X8_noPlace_X8 rfl (by decide) rfl (by omega) rfl rfl ?_
  refine z_i2l dX8_noPlace_7 (by omega) ?_
  refine z_lconst (z := 1) dX8_noPlace_8 (by decide) ?_
  refine z_lsub dX8_noPlace_9 ?_
  refine z_callSi (As := [.long (lI z), .long (lI 0), .long (lI ((mi 1) - 1))]) (rest := []) (c_X8_in  hq (by omega) (by omega) (by omega)) dX8_noPlace_10 gX8_noPlace_X8_in rfl cd_X8_in ⟨Nat.le_of_ble_eq_true rfl, Nat.le_of_ble_eq_true rfl⟩ rfl rfl rfl (Nat.le_of_ble_eq_true rfl) ⟨Nat.zero_le _, Nat.zero_le _⟩ (fun r_10 g_10 hp_10 => ?_)
  obtain ⟨⟨h_10, rfl⟩ | ⟨h_10, rfl⟩, rfl⟩ := hp_10
  · refine z_if_ne (tgt := 20) dX8_noPlace_13 (by decide) (by decide) (fun _ => ?_) (fun h => absurd h (by decide))
    refine z_iconst dX8_noPlace_20 ?_
    exact z_zret dX8_noPlace_21 (Or.inl rfl) ⟨Or.inr ⟨(by omega), rfl⟩, rfl⟩
  · refine z_if_ne (tgt := 20) dX8_noPlace_13 (by decide) (by decide) (fun h => absurd h (by decide)) (fun _ => ?_)
    refine z_iconst dX8_noPlace_16 ?_
    refine z_goto (tgt := 21) dX8_noPlace_17 (by decide) ?_
    exact z_zret dX8_noPlace_21 (Or.inr rfl) ⟨Or.inl ⟨(by omega), rfl⟩, rfl⟩
theorem m_X8_noSheet_C139 : Cond.constantLong RX8 139 (lI (3)) ∈ wsX8_noSheet := List.mem_of_getElem? (i := 1) (by decide +kernel)
set_option maxHeartbeats 400000 in
set_option maxRecDepth 100000 in
theorem c_X8_noSheet {l : Launch} {D : va_G} {cI cJ cZ cR : ClassId} {q : Nat → Nat} {mi : Nat → Int} {ma : Nat → Nat → Int} (hq : qOk 18 q) {z : Int} (hz : -2147483648 ≤ z ∧ z < 2147483648) : Cti l D vwCl (tysC cI cJ cZ cR) 18 q yX8_noSheet wsX8_noSheet ({ frames := 1, cells := 0, slots := 0, locals := 25 } : Room) [.int (iI z)] (cM cI cJ cZ q mi ma) (fun (r : Int32) (g : Nat → va_E) => (((¬ (0 ≤ z ∧ z ≤ 3)) ∧ r = iI 1) ∨ (¬ (¬ (0 ≤ z ∧ z ≤ 3)) ∧ r = iI 0)) ∧ g = (cM cI cJ cZ q mi ma)) := by
  refine Cti.of (cc := cX8_noSheet) (nL := 1) (own := RX8) (ret := (some .boolean)) (by decide) rfl rfl hq (Nat.le_of_ble_eq_true rfl) (fun p e s m args below meth c => ?_)
  refine z_iload_n (j := 0) dX8_noSheet_0 rfl rfl ?_
  refine z_i2l dX8_noSheet_1 (by omega) ?_
  refine z_lconst (z := 0) dX8_noSheet_2 (by decide) ?_
  refine z_ldc2 dX8_noSheet_3 m_X8_noSheet_C139 ?_
  refine z_callSi (As := [.long (lI z), .long (lI 0), .long (lI 3)]) (rest := []) (c_X8_in  hq (by omega) (by omega) (by omega)) dX8_noSheet_6 gX8_noSheet_X8_in rfl cd_X8_in ⟨Nat.le_of_ble_eq_true rfl, Nat.le_of_ble_eq_true rfl⟩ rfl rfl rfl (Nat.le_of_ble_eq_true rfl) ⟨Nat.zero_le _, Nat.zero_le _⟩ (fun r_6 g_6 hp_6 => ?_)
  obtain ⟨⟨h_6, rfl⟩ | ⟨h_6, rfl⟩, rfl⟩ := hp_6
  · refine z_if_ne (tgt := 16) dX8_noSheet_9 (by decide) (by decide) (fun _ => ?_) (fun h => absurd h (by decide))
    refine z_iconst dX8_noSheet_16 ?_
    exact z_zret dX8_noSheet_17 (Or.inl rfl) ⟨Or.inr ⟨(by omega), rfl⟩, rfl⟩
  · refine z_if_ne (tgt := 16) dX8_noSheet_9 (by decide) (by decide) (fun h => absurd h (by decide)) (fun _ => ?_)
    refine z_iconst dX8_noSheet_12 ?_
    refine z_goto (tgt := 17) dX8_noSheet_13 (by decide) ?_
    exact z_zret dX8_noSheet_17 (Or.inr rfl) ⟨Or.inl ⟨(by omega), rfl⟩, rfl⟩
set_option maxHeartbeats 400000 in
set_option maxRecDepth 100000 in
theorem c_X8_placeOf {l : Launch} {D : va_G} {cI cJ cZ cR : ClassId} {q : Nat → Nat} {mi : Nat → Int} {ma : Nat → Nat → Int} (hq : qOk 18 q) {x1 x2 x3 : Int}  : Cti l D vwCl (tysC cI cJ cZ cR) 18 q yX8_placeOf wsX8_placeOf ({ frames := 0, cells := 0, slots := 0, locals := 0 } : Room) [.int (iI x1), .int (iI x2), .int (iI x3)] (cM cI cJ cZ q mi ma) (fun (r : Int32) (g : Nat → va_E) => (∃ e : Int, (e = 64 * x1 + 4 * x2 + x3) ∧ r = iI e) ∧ g = (cM cI cJ cZ q mi ma)) := by
  refine Cti.of (cc := cX8_placeOf) (nL := 3) (own := RX8) (ret := (some .int)) (by decide) rfl rfl hq (Nat.le_of_ble_eq_true rfl) (fun p e s m args below meth c => ?_)
  refine z_bipush dX8_placeOf_0 (by decide) ?_
  refine z_iload_n (j := 0) dX8_placeOf_2 rfl rfl ?_
  refine z_imul dX8_placeOf_3 ?_
  refine z_iconst dX8_placeOf_4 ?_
  refine z_iload_n (j := 1) dX8_placeOf_5 rfl rfl ?_
  refine z_imul dX8_placeOf_6 ?_
  refine z_iadd dX8_placeOf_7 ?_
  refine z_iload_n (j := 2) dX8_placeOf_8 rfl rfl ?_
  refine z_iadd dX8_placeOf_9 ?_
  exact z_iret dX8_placeOf_10 ⟨⟨_, (rfl), rfl⟩, rfl⟩
set_option maxHeartbeats 400000 in
set_option maxRecDepth 100000 in
theorem c_X8_isBeyond {l : Launch} {D : va_G} {cI cJ cZ cR : ClassId} {q : Nat → Nat} {mi : Nat → Int} {ma : Nat → Nat → Int} (hq : qOk 18 q) {x1 x2 x3 : Int} (h1 : -2147483648 ≤ x1 ∧ x1 < 2147483648) (h2 : -2147483648 ≤ x2 ∧ x2 < 2147483648) (h3 : -2147483648 ≤ x3 ∧ x3 < 2147483648) : Cti l D vwCl (tysC cI cJ cZ cR) 18 q yX8_isBeyond wsX8_isBeyond ({ frames := 0, cells := 0, slots := 0, locals := 0 } : Room) [.int (iI x1), .long (lI x2), .int (iI x3)] (cM cI cJ cZ q mi ma) (fun (r : Int32) (g : Nat → va_E) => (((¬ (0 ≤ x1 ∧ 0 ≤ x2 ∧ x1 + x2 ≤ x3)) ∧ r = iI 1) ∨ (¬ (¬ (0 ≤ x1 ∧ 0 ≤ x2 ∧ x1 + x2 ≤ x3)) ∧ r = iI 0)) ∧ g = (cM cI cJ cZ q mi ma)) := by
  refine Cti.of (cc := cX8_isBeyond) (nL := 4) (own := RX8) (ret := (some .boolean)) (by decide) rfl rfl hq (Nat.le_of_ble_eq_true rfl) (fun p e s m args below meth c => ?_)
  refine z_iload_n (j := 0) dX8_isBeyond_0 rfl rfl ?_
  refine z_if_lt (tgt := 20) dX8_isBeyond_1 (by decide) (by omega) (fun c_1 => ?_) (fun c_1 => ?_)
  · refine z_iconst dX8_isBeyond_20 ?_
    refine z_goto (tgt := 25) dX8_isBeyond_21 (by decide) ?_
    exact z_zret dX8_isBeyond_25 (Or.inr rfl) ⟨Or.inl ⟨(by omega), rfl⟩, rfl⟩
  · refine z_lload_n (j := 1) dX8_isBeyond_4 rfl rfl ?_
    refine z_lconst (z := 0) dX8_isBeyond_5 (by decide) ?_
    refine z_lcmp dX8_isBeyond_6 (by omega) (by decide) (fun r_6 hr_6 => ?_)
    refine z_if_lt (tgt := 20) dX8_isBeyond_7 (by decide) (by omega) (fun c_7 => ?_) (fun c_7 => ?_)
    · refine z_iconst dX8_isBeyond_20 ?_
      refine z_goto (tgt := 25) dX8_isBeyond_21 (by decide) ?_
      exact z_zret dX8_isBeyond_25 (Or.inr rfl) ⟨Or.inl ⟨(by omega), rfl⟩, rfl⟩
    · refine z_iload_n (j := 0) dX8_isBeyond_10 rfl rfl ?_
      refine z_i2l dX8_isBeyond_11 (by omega) ?_
      refine z_lload_n (j := 1) dX8_isBeyond_12 rfl rfl ?_
      refine z_ladd dX8_isBeyond_13 ?_
      refine z_iload_n (j := 2) dX8_isBeyond_14 rfl rfl ?_
      refine z_i2l dX8_isBeyond_15 (by omega) ?_
      refine z_lcmp dX8_isBeyond_16 (by omega) (by omega) (fun r_16 hr_16 => ?_)
      refine z_if_le (tgt := 24) dX8_isBeyond_17 (by decide) (by omega) (fun c_17 => ?_) (fun c_17 => ?_)
      · refine z_iconst dX8_isBeyond_24 ?_
        exact z_zret dX8_isBeyond_25 (Or.inl rfl) ⟨Or.inr ⟨(by omega), rfl⟩, rfl⟩
      · refine z_iconst dX8_isBeyond_20 ?_
        refine z_goto (tgt := 25) dX8_isBeyond_21 (by decide) ?_
        exact z_zret dX8_isBeyond_25 (Or.inr rfl) ⟨Or.inl ⟨(by omega), rfl⟩, rfl⟩
set_option maxHeartbeats 400000 in
set_option maxRecDepth 100000 in
theorem c_X8_paceBy {l : Launch} {D : va_G} {cI cJ cZ cR : ClassId} {q : Nat → Nat} {mi : Nat → Int} {ma : Nat → Nat → Int} (hq : qOk 18 q) {act t : Int} (ha : -2147483648 ≤ act ∧ act < 2147483648) (ht : 0 ≤ t ∧ t ≤ 3) : Cti l D vwCl (tysC cI cJ cZ cR) 18 q yX8_paceBy wsX8_paceBy ({ frames := 0, cells := 0, slots := 0, locals := 0 } : Room) [.int (iI act), .int (iI t)] (cM cI cJ cZ q mi ma) (fun (r : Int32) (g : Nat → va_E) => (∃ e : Int, (e = pacA act t) ∧ r = iI e) ∧ g = (cM cI cJ cZ q mi ma)) := by
  refine Cti.of (cc := cX8_paceBy) (nL := 2) (own := RX8) (ret := (some .int)) (by decide) rfl rfl hq (Nat.le_of_ble_eq_true rfl) (fun p e s m args below meth c => ?_)
  refine z_iload_n (j := 0) dX8_paceBy_0 rfl rfl ?_
  by_cases k_1_0 : act = 0
  · refine z_tsw (kv := 0) (off := 27) (tgt := 28) dX8_paceBy_1 (by omega) k_1_0 (by decide) (by decide) rfl (by decide) ?_
    refine z_iload_n (j := 1) dX8_paceBy_28 rfl rfl ?_
    refine z_iconst dX8_paceBy_29 ?_
    refine z_icmp_ge (tgt := 39) dX8_paceBy_30 (by decide) (by omega) (by decide) (fun c_30 => ?_) (fun c_30 => ?_)
    · refine z_iconst dX8_paceBy_39 ?_
      exact z_iret dX8_paceBy_40 ⟨⟨_, (by unfold pacA; first | (rw [if_pos (by omega)]; omega) | (rw [if_neg (by omega), if_pos (by omega)]; omega) | (rw [if_neg (by omega), if_neg (by omega), if_pos (by omega)]; omega) | rw [if_neg (by omega), if_neg (by omega), if_neg (by omega)]), rfl⟩, rfl⟩
    · refine z_iload_n (j := 1) dX8_paceBy_33 rfl rfl ?_
      refine z_iconst dX8_paceBy_34 ?_
      refine z_iadd dX8_paceBy_35 ?_
      refine z_goto (tgt := 40) dX8_paceBy_36 (by decide) ?_
      exact z_iret dX8_paceBy_40 ⟨⟨_, (by unfold pacA; first | (rw [if_pos (by omega)]; omega) | (rw [if_neg (by omega), if_pos (by omega)]; omega) | (rw [if_neg (by omega), if_neg (by omega), if_pos (by omega)]; omega) | rw [if_neg (by omega), if_neg (by omega), if_neg (by omega)]), rfl⟩, rfl⟩
  ·
    by_cases k_1_1 : act = 1
    · refine z_tsw (kv := 1) (off := 40) (tgt := 41) dX8_paceBy_1 (by omega) k_1_1 (by decide) (by decide) rfl (by decide) ?_
      refine z_iload_n (j := 1) dX8_paceBy_41 rfl rfl ?_
      refine z_if_le (tgt := 51) dX8_paceBy_42 (by decide) (by omega) (fun c_42 => ?_) (fun c_42 => ?_)
      · refine z_iconst dX8_paceBy_51 ?_
        exact z_iret dX8_paceBy_52 ⟨⟨_, (by unfold pacA; first | (rw [if_pos (by omega)]; omega) | (rw [if_neg (by omega), if_pos (by omega)]; omega) | (rw [if_neg (by omega), if_neg (by omega), if_pos (by omega)]; omega) | rw [if_neg (by omega), if_neg (by omega), if_neg (by omega)]), rfl⟩, rfl⟩
      · refine z_iload_n (j := 1) dX8_paceBy_45 rfl rfl ?_
        refine z_iconst dX8_paceBy_46 ?_
        refine z_isub dX8_paceBy_47 ?_
        refine z_goto (tgt := 52) dX8_paceBy_48 (by decide) ?_
        exact z_iret dX8_paceBy_52 ⟨⟨_, (by unfold pacA; first | (rw [if_pos (by omega)]; omega) | (rw [if_neg (by omega), if_pos (by omega)]; omega) | (rw [if_neg (by omega), if_neg (by omega), if_pos (by omega)]; omega) | rw [if_neg (by omega), if_neg (by omega), if_neg (by omega)]), rfl⟩, rfl⟩
    ·
      by_cases k_1_2 : act = 2
      · refine z_tsw (kv := 2) (off := 52) (tgt := 53) dX8_paceBy_1 (by omega) k_1_2 (by decide) (by decide) rfl (by decide) ?_
        refine z_iload_n (j := 1) dX8_paceBy_53 rfl rfl ?_
        refine z_if_le (tgt := 61) dX8_paceBy_54 (by decide) (by omega) (fun c_54 => ?_) (fun c_54 => ?_)
        · refine z_iconst dX8_paceBy_61 ?_
          exact z_iret dX8_paceBy_62 ⟨⟨_, (by unfold pacA; first | (rw [if_pos (by omega)]; omega) | (rw [if_neg (by omega), if_pos (by omega)]; omega) | (rw [if_neg (by omega), if_neg (by omega), if_pos (by omega)]; omega) | rw [if_neg (by omega), if_neg (by omega), if_neg (by omega)]), rfl⟩, rfl⟩
        · refine z_iload_n (j := 1) dX8_paceBy_57 rfl rfl ?_
          refine z_goto (tgt := 62) dX8_paceBy_58 (by decide) ?_
          exact z_iret dX8_paceBy_62 ⟨⟨_, (by unfold pacA; first | (rw [if_pos (by omega)]; omega) | (rw [if_neg (by omega), if_pos (by omega)]; omega) | (rw [if_neg (by omega), if_neg (by omega), if_pos (by omega)]; omega) | rw [if_neg (by omega), if_neg (by omega), if_neg (by omega)]), rfl⟩, rfl⟩
      ·
        refine z_tswD (tgt := 63) dX8_paceBy_1 (by omega) (by omega) (by decide) ?_
        refine z_iconst dX8_paceBy_63 ?_
        exact z_iret dX8_paceBy_64 ⟨⟨_, (by unfold pacA; first | (rw [if_pos (by omega)]; omega) | (rw [if_neg (by omega), if_pos (by omega)]; omega) | (rw [if_neg (by omega), if_neg (by omega), if_pos (by omega)]; omega) | rw [if_neg (by omega), if_neg (by omega), if_neg (by omega)]), rfl⟩, rfl⟩
theorem m_X8_cellBy_f75 : Cond.fieldLink RX8 75 "PoleBehindModel" "cells" "I" ∈ wsX8_cellBy := List.mem_of_getElem? (i := 1) rfl
theorem in_X8_cellBy_X8 : ∀ w ∈ wsX80, w ∈ wsX8_cellBy := fun _ h => List.mem_cons_of_mem _ (List.mem_append_right _ h)
set_option maxHeartbeats 400000 in
set_option maxRecDepth 100000 in
theorem c_X8_cellBy {l : Launch} {D : va_G} {cI cJ cZ cR : ClassId} {q : Nat → Nat} {mi : Nat → Int} {ma : Nat → Nat → Int} (hq : qOk 18 q) {x t : Int} (hR : MRv mi ma) (hx : 0 ≤ x ∧ x ≤ 1000) (ht : 0 ≤ t ∧ t ≤ 3) : Cti l D vwCl (tysC cI cJ cZ cR) 18 q yX8_cellBy wsX8_cellBy ({ frames := 0, cells := 0, slots := 0, locals := 0 } : Room) [.ref (q 0), .int (iI x), .int (iI t)] (cM cI cJ cZ q mi ma) (fun (r : Int32) (g : Nat → va_E) => (∃ e : Int, (e = celA (mi 1) x t) ∧ r = iI e) ∧ g = (cM cI cJ cZ q mi ma)) := by
  refine Cti.of (cc := cX8_cellBy) (nL := 3) (own := RX8) (ret := (some .int)) (by decide) rfl rfl hq (Nat.le_of_ble_eq_true rfl) (fun p e s m args below meth c => ?_)
  obtain ⟨hN, hP, hK, hM, hD, hB⟩ := id hR
  have hRM := MRv_M hR
  have hnn : rN (rvM mi ma) = mi 1 := rfl
  refine z_iload_n (j := 1) dX8_cellBy_0 rfl rfl ?_
  refine z_iload_n (j := 2) dX8_cellBy_1 rfl rfl ?_
  refine z_iadd dX8_cellBy_2 ?_
  refine z_aload_n (j := 0) dX8_cellBy_3 rfl rfl ?_
  refine z_getf (i := 0) (ci := 8) (k := 1) (v := .int (iI (mi 1))) dX8_cellBy_4 m_X8_cellBy_f75 in_X8_cellBy_X8 rfl (by decide) rfl (by omega) rfl rfl ?_
  refine z_icmp_ge (tgt := 16) dX8_cellBy_7 (by decide) (by omega) (by omega) (fun c_7 => ?_) (fun c_7 => ?_)
  · refine z_aload_n (j := 0) dX8_cellBy_16 rfl rfl ?_
    refine z_getf (i := 0) (ci := 8) (k := 1) (v := .int (iI (mi 1))) dX8_cellBy_17 m_X8_cellBy_f75 in_X8_cellBy_X8 rfl (by decide) rfl (by omega) rfl rfl ?_
    refine z_iconst dX8_cellBy_20 ?_
    refine z_isub dX8_cellBy_21 ?_
    exact z_iret dX8_cellBy_22 ⟨⟨_, (by unfold celA; omega), rfl⟩, rfl⟩
  · refine z_iload_n (j := 1) dX8_cellBy_10 rfl rfl ?_
    refine z_iload_n (j := 2) dX8_cellBy_11 rfl rfl ?_
    refine z_iadd dX8_cellBy_12 ?_
    refine z_goto (tgt := 22) dX8_cellBy_13 (by decide) ?_
    exact z_iret dX8_cellBy_22 ⟨⟨_, (by unfold celA; omega), rfl⟩, rfl⟩
theorem m_X8_holdsOf_f13 : Cond.fieldLink RX8 13 "PoleBehindModel" "mudOf" "[I" ∈ wsX8_holdsOf := List.mem_of_getElem? (i := 1) rfl
theorem in_X8_holdsOf_X8 : ∀ w ∈ wsX80, w ∈ wsX8_holdsOf := fun _ h => List.mem_cons_of_mem _ (List.mem_append_right _ h)
theorem m_X8_holdsOf_f7 : Cond.fieldLink RX8 7 "PoleBehindModel" "kindOf" "[I" ∈ wsX8_holdsOf := List.mem_of_getElem? (i := 2) rfl
theorem m_X8_holdsOf_f16 : Cond.fieldLink RX8 16 "PoleBehindModel" "deepIn" "[I" ∈ wsX8_holdsOf := List.mem_of_getElem? (i := 3) rfl
set_option maxHeartbeats 400000 in
set_option maxRecDepth 100000 in
theorem c_X8_holdsOf {l : Launch} {D : va_G} {cI cJ cZ cR : ClassId} {q : Nat → Nat} {mi : Nat → Int} {ma : Nat → Nat → Int} (hq : qOk 18 q) {z : Int} (hR : MRv mi ma) (hz : 0 ≤ z ∧ z < mi 1) : Cti l D vwCl (tysC cI cJ cZ cR) 18 q yX8_holdsOf wsX8_holdsOf ({ frames := 0, cells := 0, slots := 0, locals := 0 } : Room) [.ref (q 0), .int (iI z)] (cM cI cJ cZ q mi ma) (fun (r : Int32) (g : Nat → va_E) => (∃ e : Int, (e = hold (rvM mi ma) z.toNat) ∧ r = iI e) ∧ g = (cM cI cJ cZ q mi ma)) := by
  refine Cti.of (cc := cX8_holdsOf) (nL := 3) (own := RX8) (ret := (some .int)) (by decide) rfl rfl hq (Nat.le_of_ble_eq_true rfl) (fun p e s m args below meth c => ?_)
  obtain ⟨hN, hP, hK, hM, hD, hB⟩ := id hR
  have hRM := MRv_M hR
  have hnn : rN (rvM mi ma) = mi 1 := rfl
  have hkz := hK z.toNat
  have hmz := hM z.toNat
  have hdz := hD z.toNat
  have r1 : rD (rvM mi ma) z.toNat = ma 3 z.toNat := nrm_in (by omega)
  have r2 : rK (rvM mi ma) z.toNat = ma 1 z.toNat := nrm_in (by omega)
  have r3 : rM (rvM mi ma) z.toNat = ma 2 z.toNat := nrm_in (by omega)
  refine z_aload_n (j := 0) dX8_holdsOf_0 rfl rfl ?_
  refine z_getf (i := 0) (ci := 8) (k := 4) (v := .ref (q 2)) dX8_holdsOf_1 m_X8_holdsOf_f13 in_X8_holdsOf_X8 rfl (by decide) rfl (by omega) rfl rfl ?_
  refine z_iload_n (j := 1) dX8_holdsOf_4 rfl rfl ?_
  refine z_iald (i := 2) (g := ma 2) 0 dX8_holdsOf_5 (by omega) rfl rfl (by omega) (by omega) (by omega) ?_
  refine z_aload_n (j := 0) dX8_holdsOf_6 rfl rfl ?_
  refine z_getf (i := 0) (ci := 8) (k := 3) (v := .ref (q 1)) dX8_holdsOf_7 m_X8_holdsOf_f7 in_X8_holdsOf_X8 rfl (by decide) rfl (by omega) rfl rfl ?_
  refine z_iload_n (j := 1) dX8_holdsOf_10 rfl rfl ?_
  refine z_iald (i := 1) (g := ma 1) 0 dX8_holdsOf_11 (by omega) rfl rfl (by omega) (by omega) (by omega) ?_
  refine z_if_le (tgt := 19) dX8_holdsOf_12 (by decide) (by omega) (fun c_12 => ?_) (fun c_12 => ?_)
  · refine z_iconst dX8_holdsOf_19 ?_
    refine z_iadd dX8_holdsOf_20 ?_
    refine z_istore_n [(2, .int (iI ((ma 2 z.toNat) + 0))), (0, .ref (q 0)), (1, .int (iI z))] dX8_holdsOf_21 rfl (by decide) rfl ?_
    refine z_aload_n (j := 1) dX8_holdsOf_22 rfl rfl ?_
    refine z_getf (i := 0) (ci := 8) (k := 3) (v := .ref (q 1)) dX8_holdsOf_23 m_X8_holdsOf_f7 in_X8_holdsOf_X8 rfl (by decide) rfl (by omega) rfl rfl ?_
    refine z_iload_n (j := 2) dX8_holdsOf_26 rfl rfl ?_
    refine z_iald (i := 1) (g := ma 1) 0 dX8_holdsOf_27 (by omega) rfl rfl (by omega) (by omega) (by omega) ?_
    refine z_iconst dX8_holdsOf_28 ?_
    refine z_icmp_ne (tgt := 38) dX8_holdsOf_29 (by decide) (by omega) (by decide) (fun c_29 => ?_) (fun c_29 => ?_)
    · refine z_iload_n (j := 0) dX8_holdsOf_38 rfl rfl ?_
      refine z_istore_n [(2, .int (iI ((ma 2 z.toNat) + 0))), (0, .ref (q 0)), (1, .int (iI z))] dX8_holdsOf_39 rfl (by decide) rfl ?_
      refine z_aload_n (j := 1) dX8_holdsOf_40 rfl rfl ?_
      refine z_getf (i := 0) (ci := 8) (k := 5) (v := .ref (q 3)) dX8_holdsOf_41 m_X8_holdsOf_f16 in_X8_holdsOf_X8 rfl (by decide) rfl (by omega) rfl rfl ?_
      refine z_iload_n (j := 2) dX8_holdsOf_44 rfl rfl ?_
      refine z_iald (i := 3) (g := ma 3) 0 dX8_holdsOf_45 (by omega) rfl rfl (by omega) (by omega) (by omega) ?_
      refine z_iconst dX8_holdsOf_46 ?_
      refine z_icmp_ne (tgt := 54) dX8_holdsOf_47 (by decide) (by omega) (by decide) (fun c_47 => ?_) (fun c_47 => ?_)
      · refine z_iload_n (j := 0) dX8_holdsOf_54 rfl rfl ?_
        refine z_bipush dX8_holdsOf_55 (by decide) ?_
        refine z_icmp_le (tgt := 65) dX8_holdsOf_57 (by decide) (by omega) (by decide) (fun c_57 => ?_) (fun c_57 => ?_)
        · refine z_iload_n (j := 0) dX8_holdsOf_65 rfl rfl ?_
          exact z_iret dX8_holdsOf_66 ⟨⟨_, (by unfold hold; rw [r1, r2, r3]; unfold holdK; first | (rw [if_pos (by omega)]; done) | (rw [if_neg (by omega), if_pos (by omega)]; omega) | (rw [if_neg (by omega), if_neg (by omega), if_pos (by omega)]; omega) | (rw [if_neg (by omega), if_neg (by omega), if_neg (by omega)]; omega)), rfl⟩, rfl⟩
        · refine z_bipush dX8_holdsOf_60 (by decide) ?_
          refine z_goto (tgt := 66) dX8_holdsOf_62 (by decide) ?_
          exact z_iret dX8_holdsOf_66 ⟨⟨_, (by unfold hold; rw [r1, r2, r3]; unfold holdK; first | (rw [if_pos (by omega)]; done) | (rw [if_neg (by omega), if_pos (by omega)]; omega) | (rw [if_neg (by omega), if_neg (by omega), if_pos (by omega)]; omega) | (rw [if_neg (by omega), if_neg (by omega), if_neg (by omega)]; omega)), rfl⟩, rfl⟩
      · refine z_iconst dX8_holdsOf_50 ?_
        refine z_goto (tgt := 66) dX8_holdsOf_51 (by decide) ?_
        exact z_iret dX8_holdsOf_66 ⟨⟨_, (by unfold hold; rw [r1, r2, r3]; unfold holdK; first | (rw [if_pos (by omega)]; done) | (rw [if_neg (by omega), if_pos (by omega)]; omega) | (rw [if_neg (by omega), if_neg (by omega), if_pos (by omega)]; omega) | (rw [if_neg (by omega), if_neg (by omega), if_neg (by omega)]; omega)), rfl⟩, rfl⟩
    · refine z_iconst dX8_holdsOf_32 ?_
      refine z_iload_n (j := 0) dX8_holdsOf_33 rfl rfl ?_
      refine z_imul dX8_holdsOf_34 ?_
      refine z_goto (tgt := 39) dX8_holdsOf_35 (by decide) ?_
      refine z_istore_n [(2, .int (iI (2 * ((ma 2 z.toNat) + 0)))), (0, .ref (q 0)), (1, .int (iI z))] dX8_holdsOf_39 rfl (by decide) rfl ?_
      refine z_aload_n (j := 1) dX8_holdsOf_40 rfl rfl ?_
      refine z_getf (i := 0) (ci := 8) (k := 5) (v := .ref (q 3)) dX8_holdsOf_41 m_X8_holdsOf_f16 in_X8_holdsOf_X8 rfl (by decide) rfl (by omega) rfl rfl ?_
      refine z_iload_n (j := 2) dX8_holdsOf_44 rfl rfl ?_
      refine z_iald (i := 3) (g := ma 3) 0 dX8_holdsOf_45 (by omega) rfl rfl (by omega) (by omega) (by omega) ?_
      refine z_iconst dX8_holdsOf_46 ?_
      refine z_icmp_ne (tgt := 54) dX8_holdsOf_47 (by decide) (by omega) (by decide) (fun c_47 => ?_) (fun c_47 => ?_)
      · refine z_iload_n (j := 0) dX8_holdsOf_54 rfl rfl ?_
        refine z_bipush dX8_holdsOf_55 (by decide) ?_
        refine z_icmp_le (tgt := 65) dX8_holdsOf_57 (by decide) (by omega) (by decide) (fun c_57 => ?_) (fun c_57 => ?_)
        · refine z_iload_n (j := 0) dX8_holdsOf_65 rfl rfl ?_
          exact z_iret dX8_holdsOf_66 ⟨⟨_, (by unfold hold; rw [r1, r2, r3]; unfold holdK; first | (rw [if_pos (by omega)]; done) | (rw [if_neg (by omega), if_pos (by omega)]; omega) | (rw [if_neg (by omega), if_neg (by omega), if_pos (by omega)]; omega) | (rw [if_neg (by omega), if_neg (by omega), if_neg (by omega)]; omega)), rfl⟩, rfl⟩
        · refine z_bipush dX8_holdsOf_60 (by decide) ?_
          refine z_goto (tgt := 66) dX8_holdsOf_62 (by decide) ?_
          exact z_iret dX8_holdsOf_66 ⟨⟨_, (by unfold hold; rw [r1, r2, r3]; unfold holdK; first | (rw [if_pos (by omega)]; done) | (rw [if_neg (by omega), if_pos (by omega)]; omega) | (rw [if_neg (by omega), if_neg (by omega), if_pos (by omega)]; omega) | (rw [if_neg (by omega), if_neg (by omega), if_neg (by omega)]; omega)), rfl⟩, rfl⟩
      · refine z_iconst dX8_holdsOf_50 ?_
        refine z_goto (tgt := 66) dX8_holdsOf_51 (by decide) ?_
        exact z_iret dX8_holdsOf_66 ⟨⟨_, (by unfold hold; rw [r1, r2, r3]; unfold holdK; first | (rw [if_pos (by omega)]; done) | (rw [if_neg (by omega), if_pos (by omega)]; omega) | (rw [if_neg (by omega), if_neg (by omega), if_pos (by omega)]; omega) | (rw [if_neg (by omega), if_neg (by omega), if_neg (by omega)]; omega)), rfl⟩, rfl⟩
  · refine z_iconst dX8_holdsOf_15 ?_
    refine z_goto (tgt := 20) dX8_holdsOf_16 (by decide) ?_
    refine z_iadd dX8_holdsOf_20 ?_
    refine z_istore_n [(2, .int (iI ((ma 2 z.toNat) + 1))), (0, .ref (q 0)), (1, .int (iI z))] dX8_holdsOf_21 rfl (by decide) rfl ?_
    refine z_aload_n (j := 1) dX8_holdsOf_22 rfl rfl ?_
    refine z_getf (i := 0) (ci := 8) (k := 3) (v := .ref (q 1)) dX8_holdsOf_23 m_X8_holdsOf_f7 in_X8_holdsOf_X8 rfl (by decide) rfl (by omega) rfl rfl ?_
    refine z_iload_n (j := 2) dX8_holdsOf_26 rfl rfl ?_
    refine z_iald (i := 1) (g := ma 1) 0 dX8_holdsOf_27 (by omega) rfl rfl (by omega) (by omega) (by omega) ?_
    refine z_iconst dX8_holdsOf_28 ?_
    refine z_icmp_ne (tgt := 38) dX8_holdsOf_29 (by decide) (by omega) (by decide) (fun c_29 => ?_) (fun c_29 => ?_)
    · refine z_iload_n (j := 0) dX8_holdsOf_38 rfl rfl ?_
      refine z_istore_n [(2, .int (iI ((ma 2 z.toNat) + 1))), (0, .ref (q 0)), (1, .int (iI z))] dX8_holdsOf_39 rfl (by decide) rfl ?_
      refine z_aload_n (j := 1) dX8_holdsOf_40 rfl rfl ?_
      refine z_getf (i := 0) (ci := 8) (k := 5) (v := .ref (q 3)) dX8_holdsOf_41 m_X8_holdsOf_f16 in_X8_holdsOf_X8 rfl (by decide) rfl (by omega) rfl rfl ?_
      refine z_iload_n (j := 2) dX8_holdsOf_44 rfl rfl ?_
      refine z_iald (i := 3) (g := ma 3) 0 dX8_holdsOf_45 (by omega) rfl rfl (by omega) (by omega) (by omega) ?_
      refine z_iconst dX8_holdsOf_46 ?_
      refine z_icmp_ne (tgt := 54) dX8_holdsOf_47 (by decide) (by omega) (by decide) (fun c_47 => ?_) (fun c_47 => ?_)
      · refine z_iload_n (j := 0) dX8_holdsOf_54 rfl rfl ?_
        refine z_bipush dX8_holdsOf_55 (by decide) ?_
        refine z_icmp_le (tgt := 65) dX8_holdsOf_57 (by decide) (by omega) (by decide) (fun c_57 => ?_) (fun c_57 => ?_)
        · refine z_iload_n (j := 0) dX8_holdsOf_65 rfl rfl ?_
          exact z_iret dX8_holdsOf_66 ⟨⟨_, (by unfold hold; rw [r1, r2, r3]; unfold holdK; first | (rw [if_pos (by omega)]; done) | (rw [if_neg (by omega), if_pos (by omega)]; omega) | (rw [if_neg (by omega), if_neg (by omega), if_pos (by omega)]; omega) | (rw [if_neg (by omega), if_neg (by omega), if_neg (by omega)]; omega)), rfl⟩, rfl⟩
        · refine z_bipush dX8_holdsOf_60 (by decide) ?_
          refine z_goto (tgt := 66) dX8_holdsOf_62 (by decide) ?_
          exact z_iret dX8_holdsOf_66 ⟨⟨_, (by unfold hold; rw [r1, r2, r3]; unfold holdK; first | (rw [if_pos (by omega)]; done) | (rw [if_neg (by omega), if_pos (by omega)]; omega) | (rw [if_neg (by omega), if_neg (by omega), if_pos (by omega)]; omega) | (rw [if_neg (by omega), if_neg (by omega), if_neg (by omega)]; omega)), rfl⟩, rfl⟩
      · refine z_iconst dX8_holdsOf_50 ?_
        refine z_goto (tgt := 66) dX8_holdsOf_51 (by decide) ?_
        exact z_iret dX8_holdsOf_66 ⟨⟨_, (by unfold hold; rw [r1, r2, r3]; unfold holdK; first | (rw [if_pos (by omega)]; done) | (rw [if_neg (by omega), if_pos (by omega)]; omega) | (rw [if_neg (by omega), if_neg (by omega), if_pos (by omega)]; omega) | (rw [if_neg (by omega), if_neg (by omega), if_neg (by omega)]; omega)), rfl⟩, rfl⟩
    · refine z_iconst dX8_holdsOf_32 ?_
      refine z_iload_n (j := 0) dX8_holdsOf_33 rfl rfl ?_
      refine z_imul dX8_holdsOf_34 ?_
      refine z_goto (tgt := 39) dX8_holdsOf_35 (by decide) ?_
      refine z_istore_n [(2, .int (iI (2 * ((ma 2 z.toNat) + 1)))), (0, .ref (q 0)), (1, .int (iI z))] dX8_holdsOf_39 rfl (by decide) rfl ?_
      refine z_aload_n (j := 1) dX8_holdsOf_40 rfl rfl ?_
      refine z_getf (i := 0) (ci := 8) (k := 5) (v := .ref (q 3)) dX8_holdsOf_41 m_X8_holdsOf_f16 in_X8_holdsOf_X8 rfl (by decide) rfl (by omega) rfl rfl ?_
      refine z_iload_n (j := 2) dX8_holdsOf_44 rfl rfl ?_
      refine z_iald (i := 3) (g := ma 3) 0 dX8_holdsOf_45 (by omega) rfl rfl (by omega) (by omega) (by omega) ?_
      refine z_iconst dX8_holdsOf_46 ?_
      refine z_icmp_ne (tgt := 54) dX8_holdsOf_47 (by decide) (by omega) (by decide) (fun c_47 => ?_) (fun c_47 => ?_)
      · refine z_iload_n (j := 0) dX8_holdsOf_54 rfl rfl ?_
        refine z_bipush dX8_holdsOf_55 (by decide) ?_
        refine z_icmp_le (tgt := 65) dX8_holdsOf_57 (by decide) (by omega) (by decide) (fun c_57 => ?_) (fun c_57 => ?_)
        · refine z_iload_n (j := 0) dX8_holdsOf_65 rfl rfl ?_
          exact z_iret dX8_holdsOf_66 ⟨⟨_, (by unfold hold; rw [r1, r2, r3]; unfold holdK; first | (rw [if_pos (by omega)]; done) | (rw [if_neg (by omega), if_pos (by omega)]; omega) | (rw [if_neg (by omega), if_neg (by omega), if_pos (by omega)]; omega) | (rw [if_neg (by omega), if_neg (by omega), if_neg (by omega)]; omega)), rfl⟩, rfl⟩
        · refine z_bipush dX8_holdsOf_60 (by decide) ?_
          refine z_goto (tgt := 66) dX8_holdsOf_62 (by decide) ?_
          exact z_iret dX8_holdsOf_66 ⟨⟨_, (by unfold hold; rw [r1, r2, r3]; unfold holdK; first | (rw [if_pos (by omega)]; done) | (rw [if_neg (by omega), if_pos (by omega)]; omega) | (rw [if_neg (by omega), if_neg (by omega), if_pos (by omega)]; omega) | (rw [if_neg (by omega), if_neg (by omega), if_neg (by omega)]; omega)), rfl⟩, rfl⟩
      · refine z_iconst dX8_holdsOf_50 ?_
        refine z_goto (tgt := 66) dX8_holdsOf_51 (by decide) ?_
        exact z_iret dX8_holdsOf_66 ⟨⟨_, (by unfold hold; rw [r1, r2, r3]; unfold holdK; first | (rw [if_pos (by omega)]; done) | (rw [if_neg (by omega), if_pos (by omega)]; omega) | (rw [if_neg (by omega), if_neg (by omega), if_pos (by omega)]; omega) | (rw [if_neg (by omega), if_neg (by omega), if_neg (by omega)]; omega)), rfl⟩, rfl⟩
theorem cd_X8_holdsOf : yX8_holdsOf.cls = RX8 ∧ yX8_holdsOf.cls ≠ "java/lang/invoke/MethodHandle" ∧ yX8_holdsOf.cls ≠ "java/lang/invoke/VarHandle" ∧ (parseMethodDescriptor yX8_holdsOf.desc).map (fun d => d.parameters.length) = some 1 := ⟨rfl, by decide +kernel, by decide +kernel, by decide +kernel⟩
set_option maxHeartbeats 400000 in
set_option maxRecDepth 100000 in
theorem c_X8_staysBy {l : Launch} {D : va_G} {cI cJ cZ cR : ClassId} {q : Nat → Nat} {mi : Nat → Int} {ma : Nat → Nat → Int} (hq : qOk 18 q) {act z : Int} (hR : MRv mi ma) (ha : -2147483648 ≤ act ∧ act < 2147483648) (hz : 0 ≤ z ∧ z < mi 1) : Cti l D vwCl (tysC cI cJ cZ cR) 18 q yX8_staysBy wsX8_staysBy ({ frames := 1, cells := 0, slots := 0, locals := 22 } : Room) [.ref (q 0), .int (iI act), .int (iI z)] (cM cI cJ cZ q mi ma) (fun (r : Int32) (g : Nat → va_E) => (∃ e : Int, (e = 10 - dten act (hold (rvM mi ma) z.toNat)) ∧ r = iI e) ∧ g = (cM cI cJ cZ q mi ma)) := by
  refine Cti.of (cc := cX8_staysBy) (nL := 3) (own := RX8) (ret := (some .int)) (by decide) rfl rfl hq (Nat.le_of_ble_eq_true rfl) (fun p e s m args below meth c => ?_)
  obtain ⟨hN, hP, hK, hM, hD, hB⟩ := id hR
  have hRM := MRv_M hR
  have hnn : rN (rvM mi ma) = mi 1 := rfl
  have hhr := hold_rng (hRM.2 z.toNat)
  refine z_iload_n (j := 1) dX8_staysBy_0 rfl rfl ?_
  refine z_if_ne (tgt := 12) dX8_staysBy_1 (by decide) (by omega) (fun c_1 => ?_) (fun c_1 => ?_)
  · refine z_iload_n (j := 1) dX8_staysBy_12 rfl rfl ?_
    refine z_iconst dX8_staysBy_13 ?_
    refine z_icmp_ne (tgt := 27) dX8_staysBy_14 (by decide) (by omega) (by decide) (fun c_14 => ?_) (fun c_14 => ?_)
    · refine z_iconst dX8_staysBy_27 ?_
      exact z_iret dX8_staysBy_28 ⟨⟨_, (by unfold dten; first | (rw [if_pos (by omega)]; omega) | (rw [if_neg (by omega), if_pos (by omega)]; omega) | (rw [if_neg (by omega), if_neg (by omega)]; omega)), rfl⟩, rfl⟩
    · refine z_aload_n (j := 0) dX8_staysBy_17 rfl rfl ?_
      refine z_iload_n (j := 2) dX8_staysBy_18 rfl rfl ?_
      refine z_callVi (i := 0) (ci := 8) (As := [.int (iI z)]) (rest := []) (c_X8_holdsOf  hq hR (by omega)) dX8_staysBy_19 gX8_staysBy_X8_holdsOf rfl cd_X8_holdsOf ⟨Nat.le_of_ble_eq_true rfl, Nat.le_of_ble_eq_true rfl⟩ rfl rfl (by omega) rfl rfl rfl (Nat.le_of_ble_eq_true rfl) ⟨Nat.zero_le _, Nat.zero_le _⟩ (fun r_19 g_19 hp_19 => ?_)
      obtain ⟨⟨e_19, he_19, rfl⟩, rfl⟩ := hp_19
      refine z_iconst dX8_staysBy_22 ?_
      refine z_idiv dX8_staysBy_23 (by omega) (by omega) ?_
      refine z_goto (tgt := 28) dX8_staysBy_24 (by decide) ?_
      exact z_iret dX8_staysBy_28 ⟨⟨_, (by unfold dten; first | (rw [if_pos (by omega)]; omega) | (rw [if_neg (by omega), if_pos (by omega)]; omega) | (rw [if_neg (by omega), if_neg (by omega)]; omega)), rfl⟩, rfl⟩
  · refine z_aload_n (j := 0) dX8_staysBy_4 rfl rfl ?_
    refine z_iload_n (j := 2) dX8_staysBy_5 rfl rfl ?_
    refine z_callVi (i := 0) (ci := 8) (As := [.int (iI z)]) (rest := []) (c_X8_holdsOf  hq hR (by omega)) dX8_staysBy_6 gX8_staysBy_X8_holdsOf rfl cd_X8_holdsOf ⟨Nat.le_of_ble_eq_true rfl, Nat.le_of_ble_eq_true rfl⟩ rfl rfl (by omega) rfl rfl rfl (Nat.le_of_ble_eq_true rfl) ⟨Nat.zero_le _, Nat.zero_le _⟩ (fun r_6 g_6 hp_6 => ?_)
    obtain ⟨⟨e_6, he_6, rfl⟩, rfl⟩ := hp_6
    refine z_goto (tgt := 28) dX8_staysBy_9 (by decide) ?_
    exact z_iret dX8_staysBy_28 ⟨⟨_, (by unfold dten; first | (rw [if_pos (by omega)]; omega) | (rw [if_neg (by omega), if_pos (by omega)]; omega) | (rw [if_neg (by omega), if_neg (by omega)]; omega)), rfl⟩, rfl⟩
theorem m_X8_traced_f253 : Cond.fieldLink RX8 253 "PoleBehindModel" "traceNow" "I" ∈ wsX8_traced := List.mem_of_getElem? (i := 1) rfl
theorem in_X8_traced_X8 : ∀ w ∈ wsX80, w ∈ wsX8_traced := fun _ h => List.mem_cons_of_mem _ (List.mem_append_right _ h)
set_option maxHeartbeats 400000 in
set_option maxRecDepth 100000 in
theorem c_X8_traced {l : Launch} {D : va_G} {cI cJ cZ cR : ClassId} {q : Nat → Nat} {mi : Nat → Int} {ma : Nat → Nat → Int} (hq : qOk 18 q) {z : Int}  : Ctv l D vwCl (tysC cI cJ cZ cR) 18 q yX8_traced wsX8_traced ({ frames := 0, cells := 0, slots := 0, locals := 0 } : Room) [.ref (q 0), .int (iI z)] (cM cI cJ cZ q mi ma) (fun (g : Nat → va_E) => ∃ (mi' : Nat → Int), (mi' = va_up mi 29 (31 * mi 29 + z)) ∧ g = (cM cI cJ cZ q mi' ma)) := by
  refine Ctv.of (cc := cX8_traced) (nL := 2) (own := RX8) (ret := none) (by decide) rfl rfl hq (Nat.le_of_ble_eq_true rfl) (fun p e s m args below meth c => ?_)
  refine z_aload_n (j := 0) dX8_traced_0 rfl rfl ?_
  refine z_bipush dX8_traced_1 (by decide) ?_
  refine z_aload_n (j := 0) dX8_traced_3 rfl rfl ?_
  refine z_getf (i := 0) (ci := 8) (k := 29) (v := .int (iI (mi 29))) dX8_traced_4 m_X8_traced_f253 in_X8_traced_X8 rfl (by decide) rfl (by omega) rfl rfl ?_
  refine z_imul dX8_traced_7 ?_
  refine z_iload_n (j := 1) dX8_traced_8 rfl rfl ?_
  refine z_iadd dX8_traced_9 ?_
  refine z_putf (i := 0) (ci := 8) (k := 29) (cM cI cJ cZ q (va_up mi 29 ((31 * (mi 29)) + z)) ma) dX8_traced_10 m_X8_traced_f253 in_X8_traced_X8 rfl (by decide) rfl (by omega) rfl tyX8_ok nmX8 rfl rfl rfl (Nat.le_of_ble_eq_true rfl) lm_29 ?_
  exact z_vret dX8_traced_13 ⟨_, (rfl), rfl⟩
theorem m_X8_trace_f253 : Cond.fieldLink RX8 253 "PoleBehindModel" "traceNow" "I" ∈ wsX8_trace := List.mem_of_getElem? (i := 1) rfl
theorem in_X8_trace_X8 : ∀ w ∈ wsX80, w ∈ wsX8_trace := fun _ h => List.mem_cons_of_mem _ (List.mem_append_right _ h)
set_option maxHeartbeats 400000 in
set_option maxRecDepth 100000 in
theorem c_X8_trace {l : Launch} {D : va_G} {cI cJ cZ cR : ClassId} {q : Nat → Nat} {mi : Nat → Int} {ma : Nat → Nat → Int} (hq : qOk 18 q)   : Cti l D vwCl (tysC cI cJ cZ cR) 18 q yX8_trace wsX8_trace ({ frames := 0, cells := 0, slots := 0, locals := 0 } : Room) [.ref (q 0)] (cM cI cJ cZ q mi ma) (fun (r : Int32) (g : Nat → va_E) => (∃ e : Int, (e = aTr (vM mi ma)) ∧ r = iI e) ∧ g = (cM cI cJ cZ q mi ma)) := by
  refine Cti.of (cc := cX8_trace) (nL := 1) (own := RX8) (ret := (some .int)) (by decide) rfl rfl hq (Nat.le_of_ble_eq_true rfl) (fun p e s m args below meth c => ?_)
  refine z_aload_n (j := 0) dX8_trace_0 rfl rfl ?_
  refine z_getf (i := 0) (ci := 8) (k := 29) (v := .int (iI (mi 29))) dX8_trace_1 m_X8_trace_f253 in_X8_trace_X8 rfl (by decide) rfl (by omega) rfl rfl ?_
  exact z_iret dX8_trace_4 ⟨⟨_, (rfl), rfl⟩, rfl⟩
theorem m_X8_fault_f67 : Cond.fieldLink RX8 67 "PoleBehindModel" "fault" "I" ∈ wsX8_fault := List.mem_of_getElem? (i := 1) rfl
theorem in_X8_fault_X8 : ∀ w ∈ wsX80, w ∈ wsX8_fault := fun _ h => List.mem_cons_of_mem _ (List.mem_append_right _ h)
set_option maxHeartbeats 400000 in
set_option maxRecDepth 100000 in
theorem c_X8_fault {l : Launch} {D : va_G} {cI cJ cZ cR : ClassId} {q : Nat → Nat} {mi : Nat → Int} {ma : Nat → Nat → Int} (hq : qOk 18 q)   : Cti l D vwCl (tysC cI cJ cZ cR) 18 q yX8_fault wsX8_fault ({ frames := 0, cells := 0, slots := 0, locals := 0 } : Room) [.ref (q 0)] (cM cI cJ cZ q mi ma) (fun (r : Int32) (g : Nat → va_E) => (∃ e : Int, (e = aFa (vM mi ma)) ∧ r = iI e) ∧ g = (cM cI cJ cZ q mi ma)) := by
  refine Cti.of (cc := cX8_fault) (nL := 1) (own := RX8) (ret := (some .int)) (by decide) rfl rfl hq (Nat.le_of_ble_eq_true rfl) (fun p e s m args below meth c => ?_)
  refine z_aload_n (j := 0) dX8_fault_0 rfl rfl ?_
  refine z_getf (i := 0) (ci := 8) (k := 0) (v := .int (iI (mi 0))) dX8_fault_1 m_X8_fault_f67 in_X8_fault_X8 rfl (by decide) rfl (by omega) rfl rfl ?_
  exact z_iret dX8_fault_4 ⟨⟨_, (rfl), rfl⟩, rfl⟩
theorem m_X8_bridgesMany_f75 : Cond.fieldLink RX8 75 "PoleBehindModel" "cells" "I" ∈ wsX8_bridgesMany := List.mem_of_getElem? (i := 1) rfl
theorem in_X8_bridgesMany_X8 : ∀ w ∈ wsX80, w ∈ wsX8_bridgesMany := fun _ h => List.mem_cons_of_mem _ (List.mem_append_right _ h)
theorem m_X8_bridgesMany_f19 : Cond.fieldLink RX8 19 "PoleBehindModel" "bridgeOver" "[I" ∈ wsX8_bridgesMany := List.mem_of_getElem? (i := 2) rfl
set_option maxHeartbeats 400000 in
set_option maxRecDepth 100000 in
theorem c_X8_bridgesMany {l : Launch} {D : va_G} {cI cJ cZ cR : ClassId} {q : Nat → Nat} {mi : Nat → Int} {ma : Nat → Nat → Int} (hq : qOk 18 q)  (hR : MRv mi ma) : Cti l D vwCl (tysC cI cJ cZ cR) 18 q yX8_bridgesMany wsX8_bridgesMany ({ frames := 0, cells := 0, slots := 0, locals := 0 } : Room) [.ref (q 0)] (cM cI cJ cZ q mi ma) (fun (r : Int32) (g : Nat → va_E) => (∃ e : Int, (e = sumT (rB (rvM mi ma)) (mi 1).toNat) ∧ r = iI e) ∧ g = (cM cI cJ cZ q mi ma)) := by
  refine Cti.of (cc := cX8_bridgesMany) (nL := 3) (own := RX8) (ret := (some .int)) (by decide) rfl rfl hq (Nat.le_of_ble_eq_true rfl) (fun p e s m args below meth c => ?_)
  obtain ⟨hN, hP, hK, hM, hD, hB⟩ := id hR
  have hRM := MRv_M hR
  have hnn : rN (rvM mi ma) = mi 1 := rfl
  refine z_iconst dX8_bridgesMany_0 ?_
  refine z_istore_n [(1, .int (iI 0)), (0, .ref (q 0))] dX8_bridgesMany_1 rfl (by decide) rfl ?_
  refine z_iconst dX8_bridgesMany_2 ?_
  refine z_istore_n [(2, .int (iI 0)), (1, .int (iI 0)), (0, .ref (q 0))] dX8_bridgesMany_3 rfl (by decide) rfl ?_
  have hl_4 : ∀ (N_4 : Nat) (u : Int) (ac : Int), (20 - u).toNat < N_4 → (0 ≤ u ∧ u ≤ mi 1) → (ac = sumT (rB (rvM mi ma)) u.toNat) → ZMi l D vwCl (tysC cI cJ cZ cR) 18 q ({ frames := 0, cells := 0, slots := 0, locals := 0 } : Room) cX8_bridgesMany 3 RX8 wsX8_bridgesMany (some .int) (fun (r : Int32) (g : Nat → va_E) => (∃ e : Int, (e = sumT (rB (rvM mi ma)) (mi 1).toNat) ∧ r = iI e) ∧ g = (cM cI cJ cZ q mi ma)) p e s m args below meth c (cM cI cJ cZ q mi ma) 4 [(2, .int (iI u)), (1, .int (iI ac)), (0, .ref (q 0))] [] := by
    intro N_4
    induction N_4 with
    | zero => intro u ac hm; exact absurd hm (Nat.not_lt_zero _)
    | succ N_4 ih_4 =>
      intro u ac hm_4 hu hac
      have hbu := hB u.toNat
      refine z_iload_n (j := 0) dX8_bridgesMany_4 rfl rfl ?_
      refine z_aload_n (j := 2) dX8_bridgesMany_5 rfl rfl ?_
      refine z_getf (i := 0) (ci := 8) (k := 1) (v := .int (iI (mi 1))) dX8_bridgesMany_6 m_X8_bridgesMany_f75 in_X8_bridgesMany_X8 rfl (by decide) rfl (by omega) rfl rfl ?_
      refine z_icmp_ge (tgt := 27) dX8_bridgesMany_9 (by decide) (by omega) (by omega) (fun c_9 => ?_) (fun c_9 => ?_)
      · refine z_iload_n (j := 1) dX8_bridgesMany_27 rfl rfl ?_
        exact z_iret dX8_bridgesMany_28 ⟨⟨_, (by rw [hac, show u.toNat = (mi 1).toNat by omega]), rfl⟩, rfl⟩
      · refine z_iload_n (j := 1) dX8_bridgesMany_12 rfl rfl ?_
        refine z_aload_n (j := 2) dX8_bridgesMany_13 rfl rfl ?_
        refine z_getf (i := 0) (ci := 8) (k := 6) (v := .ref (q 4)) dX8_bridgesMany_14 m_X8_bridgesMany_f19 in_X8_bridgesMany_X8 rfl (by decide) rfl (by omega) rfl rfl ?_
        refine z_iload_n (j := 0) dX8_bridgesMany_17 rfl rfl ?_
        refine z_iald (i := 4) (g := ma 4) 0 dX8_bridgesMany_18 (by omega) rfl rfl (by omega) (by omega) (by omega) ?_
        refine z_iadd dX8_bridgesMany_19 ?_
        refine z_istore_n [(1, .int (iI (ac + (ma 4 u.toNat)))), (2, .int (iI u)), (0, .ref (q 0))] dX8_bridgesMany_20 rfl (by decide) rfl ?_
        refine z_iinc (j := 1) [(2, .int (iI (u + 1))), (1, .int (iI (ac + (ma 4 u.toNat)))), (0, .ref (q 0))] dX8_bridgesMany_21 rfl (by decide) rfl ?_
        refine z_goto (tgt := 4) dX8_bridgesMany_24 (by decide) ?_
        exact z_sub [(2, .int (iI (u + 1))), (1, .int (iI (ac + (ma 4 u.toNat)))), (0, .ref (q 0))] [0, 1, 2] rfl (ih_4 (u + 1) (ac + (ma 4 u.toNat)) (by omega) (by omega) (by rw [stepN hu.1, sumT, ← hac, show rB (rvM mi ma) u.toNat = ma 4 u.toNat from nrm_in (by omega)]))
  exact z_sub [(2, .int (iI 0)), (1, .int (iI 0)), (0, .ref (q 0))] [0, 1, 2] rfl (hl_4 _ 0 0 (Nat.lt_succ_self _) (by omega) (rfl))
theorem m_X8_many_f75 : Cond.fieldLink RX8 75 "PoleBehindModel" "cells" "I" ∈ wsX8_many := List.mem_of_getElem? (i := 1) rfl
theorem in_X8_many_X8 : ∀ w ∈ wsX80, w ∈ wsX8_many := fun _ h => List.mem_cons_of_mem _ (List.mem_append_right _ h)
theorem m_X8_many_f127 : Cond.fieldLink RX8 127 "PoleBehindModel" "paceFirst" "I" ∈ wsX8_many := List.mem_of_getElem? (i := 2) rfl
theorem cd_X8_bridgesMany : yX8_bridgesMany.cls = RX8 ∧ yX8_bridgesMany.cls ≠ "java/lang/invoke/MethodHandle" ∧ yX8_bridgesMany.cls ≠ "java/lang/invoke/VarHandle" ∧ (parseMethodDescriptor yX8_bridgesMany.desc).map (fun d => d.parameters.length) = some 0 := ⟨rfl, by decide +kernel, by decide +kernel, by decide +kernel⟩
theorem m_X8_many_f130 : Cond.fieldLink RX8 130 "PoleBehindModel" "readings" "I" ∈ wsX8_many := List.mem_of_getElem? (i := 3) rfl
set_option maxHeartbeats 400000 in
set_option maxRecDepth 100000 in
theorem c_X8_many {l : Launch} {D : va_G} {cI cJ cZ cR : ClassId} {q : Nat → Nat} {mi : Nat → Int} {ma : Nat → Nat → Int} (hq : qOk 18 q) {wh : Int} (hO : MOk mi ma) (hwh : -2147483648 ≤ wh ∧ wh < 2147483648) : Cti l D vwCl (tysC cI cJ cZ cR) 18 q yX8_many wsX8_many ({ frames := 1, cells := 0, slots := 0, locals := 22 } : Room) [.ref (q 0), .int (iI wh)] (cM cI cJ cZ q mi ma) (fun (r : Int32) (g : Nat → va_E) => (∃ e : Int, (spMany (vM mi ma) wh e) ∧ r = iI e) ∧ g = (cM cI cJ cZ q mi ma)) := by
  refine Cti.of (cc := cX8_many) (nL := 2) (own := RX8) (ret := (some .int)) (by decide) rfl rfl hq (Nat.le_of_ble_eq_true rfl) (fun p e s m args below meth c => ?_)
  obtain ⟨hR, hn2, hQ, hSh, hSn, hHd, hRdg, hfa⟩ := id hO
  obtain ⟨hN, hP, hK, hM, hD, hB⟩ := id hR
  have hRM := MRv_M hR
  have hnn : rN (rvM mi ma) = mi 1 := rfl
  have hnA : rN (aR (vM mi ma)) = mi 1 := rfl
  refine z_iload_n (j := 1) dX8_many_0 rfl rfl ?_
  by_cases k_1_0 : wh = 0
  · refine z_tsw (kv := 0) (off := 31) (tgt := 32) dX8_many_1 (by omega) k_1_0 (by decide) (by decide) rfl (by decide) ?_
    refine z_aload_n (j := 0) dX8_many_32 rfl rfl ?_
    refine z_getf (i := 0) (ci := 8) (k := 1) (v := .int (iI (mi 1))) dX8_many_33 m_X8_many_f75 in_X8_many_X8 rfl (by decide) rfl (by omega) rfl rfl ?_
    exact z_iret dX8_many_36 ⟨⟨_, (by unfold spMany; first | (rw [if_pos (by omega)]; rfl) | (rw [if_neg (by omega), if_pos (by omega)]; rfl) | (rw [if_neg (by omega), if_neg (by omega), if_pos (by omega)]; exact he_43) | (rw [if_neg (by omega), if_neg (by omega), if_neg (by omega), if_pos (by omega)]; rfl) | rw [if_neg (by omega), if_neg (by omega), if_neg (by omega), if_neg (by omega)]), rfl⟩, rfl⟩
  ·
    by_cases k_1_1 : wh = 1
    · refine z_tsw (kv := 1) (off := 36) (tgt := 37) dX8_many_1 (by omega) k_1_1 (by decide) (by decide) rfl (by decide) ?_
      refine z_aload_n (j := 0) dX8_many_37 rfl rfl ?_
      refine z_getf (i := 0) (ci := 8) (k := 2) (v := .int (iI (mi 2))) dX8_many_38 m_X8_many_f127 in_X8_many_X8 rfl (by decide) rfl (by omega) rfl rfl ?_
      exact z_iret dX8_many_41 ⟨⟨_, (by unfold spMany; first | (rw [if_pos (by omega)]; rfl) | (rw [if_neg (by omega), if_pos (by omega)]; rfl) | (rw [if_neg (by omega), if_neg (by omega), if_pos (by omega)]; exact he_43) | (rw [if_neg (by omega), if_neg (by omega), if_neg (by omega), if_pos (by omega)]; rfl) | rw [if_neg (by omega), if_neg (by omega), if_neg (by omega), if_neg (by omega)]), rfl⟩, rfl⟩
    ·
      by_cases k_1_2 : wh = 2
      · refine z_tsw (kv := 2) (off := 41) (tgt := 42) dX8_many_1 (by omega) k_1_2 (by decide) (by decide) rfl (by decide) ?_
        refine z_aload_n (j := 0) dX8_many_42 rfl rfl ?_
        refine z_callVi (i := 0) (ci := 8) (As := []) (rest := []) (c_X8_bridgesMany  hq hR) dX8_many_43 gX8_many_X8_bridgesMany rfl cd_X8_bridgesMany ⟨Nat.le_of_ble_eq_true rfl, Nat.le_of_ble_eq_true rfl⟩ rfl rfl (by omega) rfl rfl rfl (Nat.le_of_ble_eq_true rfl) ⟨Nat.zero_le _, Nat.zero_le _⟩ (fun r_43 g_43 hp_43 => ?_)
        obtain ⟨⟨e_43, he_43, rfl⟩, rfl⟩ := hp_43
        exact z_iret dX8_many_46 ⟨⟨_, (by unfold spMany; first | (rw [if_pos (by omega)]; rfl) | (rw [if_neg (by omega), if_pos (by omega)]; rfl) | (rw [if_neg (by omega), if_neg (by omega), if_pos (by omega)]; exact he_43) | (rw [if_neg (by omega), if_neg (by omega), if_neg (by omega), if_pos (by omega)]; rfl) | rw [if_neg (by omega), if_neg (by omega), if_neg (by omega), if_neg (by omega)]), rfl⟩, rfl⟩
      ·
        by_cases k_1_3 : wh = 3
        · refine z_tsw (kv := 3) (off := 46) (tgt := 47) dX8_many_1 (by omega) k_1_3 (by decide) (by decide) rfl (by decide) ?_
          refine z_aload_n (j := 0) dX8_many_47 rfl rfl ?_
          refine z_getf (i := 0) (ci := 8) (k := 22) (v := .int (iI (mi 22))) dX8_many_48 m_X8_many_f130 in_X8_many_X8 rfl (by decide) rfl (by omega) rfl rfl ?_
          exact z_iret dX8_many_51 ⟨⟨_, (by unfold spMany; first | (rw [if_pos (by omega)]; rfl) | (rw [if_neg (by omega), if_pos (by omega)]; rfl) | (rw [if_neg (by omega), if_neg (by omega), if_pos (by omega)]; exact he_43) | (rw [if_neg (by omega), if_neg (by omega), if_neg (by omega), if_pos (by omega)]; rfl) | rw [if_neg (by omega), if_neg (by omega), if_neg (by omega), if_neg (by omega)]), rfl⟩, rfl⟩
        ·
          refine z_tswD (tgt := 52) dX8_many_1 (by omega) (by omega) (by decide) ?_
          refine z_bipush dX8_many_52 (by decide) ?_
          exact z_iret dX8_many_54 ⟨⟨_, (by unfold spMany; first | (rw [if_pos (by omega)]; rfl) | (rw [if_neg (by omega), if_pos (by omega)]; rfl) | (rw [if_neg (by omega), if_neg (by omega), if_pos (by omega)]; exact he_43) | (rw [if_neg (by omega), if_neg (by omega), if_neg (by omega), if_pos (by omega)]; rfl) | rw [if_neg (by omega), if_neg (by omega), if_neg (by omega), if_neg (by omega)]), rfl⟩, rfl⟩
