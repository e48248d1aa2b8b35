theorem m_X8_areSo_f130 : Cond.fieldLink RX8 130 "PoleBehindModel" "readings" "I" ∈ wsX8_areSo := List.mem_of_getElem? (i := 1) rfl
theorem in_X8_areSo_X8 : ∀ w ∈ wsX80, w ∈ wsX8_areSo := fun _ h => List.mem_cons_of_mem _ (List.mem_append_right _ h)
theorem m_X8_areSo_f45 : Cond.fieldLink RX8 45 "PoleBehindModel" "readingIn" "[I" ∈ wsX8_areSo := List.mem_of_getElem? (i := 2) rfl
theorem m_X8_areSo_f48 : Cond.fieldLink RX8 48 "PoleBehindModel" "readingAt" "[I" ∈ wsX8_areSo := List.mem_of_getElem? (i := 3) rfl
theorem m_X8_areSo_f147 : Cond.fieldLink RX8 147 "PoleBehindModel" "cellNow" "I" ∈ wsX8_areSo := List.mem_of_getElem? (i := 4) rfl
set_option maxHeartbeats 400000 in
set_option maxRecDepth 100000 in
theorem c_X8_areSo {l : Launch} {D : va_G} {cI cJ cZ cR : ClassId} {q : Nat → Nat} {mi : Nat → Int} {ma : Nat → Nat → Int} (hq : qOk 18 q) {tt : Int} (h22 : 0 ≤ mi 22 ∧ mi 22 ≤ 8) (hTr : ∀ k : Nat, -2147483648 ≤ ma 12 k ∧ ma 12 k < 2147483648) (hCr : ∀ k : Nat, -2147483648 ≤ ma 13 k ∧ ma 13 k < 2147483648) (h14 : 0 ≤ mi 14 ∧ mi 14 ≤ 15) (htt : 0 ≤ tt ∧ tt ≤ 100) : Cti l D vwCl (tysC cI cJ cZ cR) 18 q yX8_areSo wsX8_areSo ({ frames := 0, cells := 0, slots := 0, locals := 0 } : Room) [.ref (q 0), .int (iI tt)] (cM cI cJ cZ q mi ma) (fun (r : Int32) (g : Nat → va_E) => (((∀ k : Nat, (k : Int) < mi 22 → ma 12 k = tt → ma 13 k = mi 14) ∧ r = iI 1) ∨ (¬ (∀ k : Nat, (k : Int) < mi 22 → ma 12 k = tt → ma 13 k = mi 14) ∧ r = iI 0)) ∧ g = (cM cI cJ cZ q mi ma)) := by
  refine Cti.of (cc := cX8_areSo) (nL := 4) (own := RX8) (ret := (some .boolean)) (by decide) rfl rfl hq (Nat.le_of_ble_eq_true rfl) (fun p e s m args below meth c => ?_)
  refine z_iconst dX8_areSo_0 ?_
  refine z_istore_n [(2, .int (iI 1)), (0, .ref (q 0)), (1, .int (iI tt))] dX8_areSo_1 rfl (by decide) rfl ?_
  refine z_iconst dX8_areSo_2 ?_
  refine z_istore_n [(3, .int (iI 0)), (2, .int (iI 1)), (0, .ref (q 0)), (1, .int (iI tt))] dX8_areSo_3 rfl (by decide) rfl ?_
  have hl_4 : ∀ (N_4 : Nat) (u : Int) (b : Int), (10 - u).toNat < N_4 → (0 ≤ u ∧ u ≤ mi 22) → ((b = 1 ∧ ∀ k : Nat, (k : Int) < u → ma 12 k = tt → ma 13 k = mi 14) ∨ (b = 0 ∧ ∃ k : Nat, (k : Int) < u ∧ ma 12 k = tt ∧ ma 13 k ≠ mi 14)) → ZMi l D vwCl (tysC cI cJ cZ cR) 18 q ({ frames := 0, cells := 0, slots := 0, locals := 0 } : Room) cX8_areSo 4 RX8 wsX8_areSo (some .boolean) (fun (r : Int32) (g : Nat → va_E) => (((∀ k : Nat, (k : Int) < mi 22 → ma 12 k = tt → ma 13 k = mi 14) ∧ r = iI 1) ∨ (¬ (∀ k : Nat, (k : Int) < mi 22 → ma 12 k = tt → ma 13 k = mi 14) ∧ r = iI 0)) ∧ g = (cM cI cJ cZ q mi ma)) p e s m args below meth c (cM cI cJ cZ q mi ma) 4 [(3, .int (iI u)), (2, .int (iI b)), (0, .ref (q 0)), (1, .int (iI tt))] [] := by
    intro N_4
    induction N_4 with
    | zero => intro u b hm; exact absurd hm (Nat.not_lt_zero _)
    | succ N_4 ih_4 =>
      intro u b hm_4 hu hv
      have hr1 := hTr u.toNat
      have hr2 := hCr u.toNat
      have hb01 : b = 0 ∨ b = 1 := hv.elim (fun h => Or.inr h.1) (fun h => Or.inl h.1)
      refine z_iload_n (j := 0) dX8_areSo_4 rfl rfl ?_
      refine z_aload_n (j := 2) dX8_areSo_5 rfl rfl ?_
      refine z_getf (i := 0) (ci := 8) (k := 22) (v := .int (iI (mi 22))) dX8_areSo_6 m_X8_areSo_f130 in_X8_areSo_X8 rfl (by decide) rfl (by omega) rfl rfl ?_
      refine z_icmp_ge (tgt := 51) dX8_areSo_9 (by decide) (by omega) (by omega) (fun c_9 => ?_) (fun c_9 => ?_)
      · refine z_iload_n (j := 1) dX8_areSo_51 rfl rfl ?_
        exact z_zret dX8_areSo_52 (hv.elim (fun h => Or.inr (by rw [h.1])) (fun h => Or.inl (by rw [h.1]))) ⟨by
      rcases hv with ⟨w1, w2⟩ | ⟨w1, k, w2, w3, w4⟩
      · exact Or.inl ⟨fun k hk => w2 k (by omega), by rw [w1]⟩
      · exact Or.inr ⟨fun h => w4 (h k (by omega) w3), by rw [w1]⟩, rfl⟩
      · refine z_iload_n (j := 1) dX8_areSo_12 rfl rfl ?_
        refine z_if_eq (tgt := 43) dX8_areSo_13 (by decide) (by omega) (fun c_13 => ?_) (fun c_13 => ?_)
        · refine z_iconst dX8_areSo_43 ?_
          refine z_istore_n [(2, .int (iI 0)), (3, .int (iI u)), (0, .ref (q 0)), (1, .int (iI tt))] dX8_areSo_44 rfl (by decide) rfl ?_
          refine z_iinc (j := 1) [(3, .int (iI (u + 1))), (2, .int (iI 0)), (0, .ref (q 0)), (1, .int (iI tt))] dX8_areSo_45 rfl (by decide) rfl ?_
          refine z_goto (tgt := 4) dX8_areSo_48 (by decide) ?_
          exact z_sub [(3, .int (iI (u + 1))), (2, .int (iI 0)), (0, .ref (q 0)), (1, .int (iI tt))] [0, 1, 2, 3] rfl (ih_4 (u + 1) 0 (by omega) (by omega) (by
            rcases hv with ⟨w1, w2⟩ | ⟨w1, k, w2, w3, w4⟩
            · first
                | (refine Or.inl ⟨rfl, fun k hk h => ?_⟩
                   by_cases hq : (k : Int) = u
                   · rw [show k = u.toNat by omega] at h ⊢; omega
                   · exact w2 k (by omega) h)
                | exact Or.inr ⟨rfl, u.toNat, by omega, by omega, by omega⟩
                | exact absurd w1 (by omega)
            · first
                | exact Or.inr ⟨rfl, k, by omega, w3, w4⟩
                | exact absurd w1 (by omega)))
        · refine z_aload_n (j := 2) dX8_areSo_16 rfl rfl ?_
          refine z_getf (i := 0) (ci := 8) (k := 23) (v := .ref (q 12)) dX8_areSo_17 m_X8_areSo_f45 in_X8_areSo_X8 rfl (by decide) rfl (by omega) rfl rfl ?_
          refine z_iload_n (j := 0) dX8_areSo_20 rfl rfl ?_
          refine z_iald (i := 12) (g := ma 12) 0 dX8_areSo_21 (by omega) rfl rfl (by omega) (by omega) (by omega) ?_
          refine z_iload_n (j := 3) dX8_areSo_22 rfl rfl ?_
          refine z_icmp_ne (tgt := 39) dX8_areSo_23 (by decide) (by omega) (by omega) (fun c_23 => ?_) (fun c_23 => ?_)
          · refine z_iconst dX8_areSo_39 ?_
            refine z_goto (tgt := 44) dX8_areSo_40 (by decide) ?_
            refine z_istore_n [(2, .int (iI 1)), (3, .int (iI u)), (0, .ref (q 0)), (1, .int (iI tt))] dX8_areSo_44 rfl (by decide) rfl ?_
            refine z_iinc (j := 1) [(3, .int (iI (u + 1))), (2, .int (iI 1)), (0, .ref (q 0)), (1, .int (iI tt))] dX8_areSo_45 rfl (by decide) rfl ?_
            refine z_goto (tgt := 4) dX8_areSo_48 (by decide) ?_
            exact z_sub [(3, .int (iI (u + 1))), (2, .int (iI 1)), (0, .ref (q 0)), (1, .int (iI tt))] [0, 1, 2, 3] rfl (ih_4 (u + 1) 1 (by omega) (by omega) (by
            rcases hv with ⟨w1, w2⟩ | ⟨w1, k, w2, w3, w4⟩
            · first
                | (refine Or.inl ⟨rfl, fun k hk h => ?_⟩
                   by_cases hq : (k : Int) = u
                   · rw [show k = u.toNat by omega] at h ⊢; omega
                   · exact w2 k (by omega) h)
                | exact Or.inr ⟨rfl, u.toNat, by omega, by omega, by omega⟩
                | exact absurd w1 (by omega)
            · first
                | exact Or.inr ⟨rfl, k, by omega, w3, w4⟩
                | exact absurd w1 (by omega)))
          · refine z_aload_n (j := 2) dX8_areSo_26 rfl rfl ?_
            refine z_getf (i := 0) (ci := 8) (k := 24) (v := .ref (q 13)) dX8_areSo_27 m_X8_areSo_f48 in_X8_areSo_X8 rfl (by decide) rfl (by omega) rfl rfl ?_
            refine z_iload_n (j := 0) dX8_areSo_30 rfl rfl ?_
            refine z_iald (i := 13) (g := ma 13) 0 dX8_areSo_31 (by omega) rfl rfl (by omega) (by omega) (by omega) ?_
            refine z_aload_n (j := 2) dX8_areSo_32 rfl rfl ?_
            refine z_getf (i := 0) (ci := 8) (k := 14) (v := .int (iI (mi 14))) dX8_areSo_33 m_X8_areSo_f147 in_X8_areSo_X8 rfl (by decide) rfl (by omega) rfl rfl ?_
            refine z_icmp_ne (tgt := 43) dX8_areSo_36 (by decide) (by omega) (by omega) (fun c_36 => ?_) (fun c_36 => ?_)
            · refine z_iconst dX8_areSo_43 ?_
              refine z_istore_n [(2, .int (iI 0)), (3, .int (iI u)), (0, .ref (q 0)), (1, .int (iI tt))] dX8_areSo_44 rfl (by decide) rfl ?_
              refine z_iinc (j := 1) [(3, .int (iI (u + 1))), (2, .int (iI 0)), (0, .ref (q 0)), (1, .int (iI tt))] dX8_areSo_45 rfl (by decide) rfl ?_
              refine z_goto (tgt := 4) dX8_areSo_48 (by decide) ?_
              exact z_sub [(3, .int (iI (u + 1))), (2, .int (iI 0)), (0, .ref (q 0)), (1, .int (iI tt))] [0, 1, 2, 3] rfl (ih_4 (u + 1) 0 (by omega) (by omega) (by
            rcases hv with ⟨w1, w2⟩ | ⟨w1, k, w2, w3, w4⟩
            · first
                | (refine Or.inl ⟨rfl, fun k hk h => ?_⟩
                   by_cases hq : (k : Int) = u
                   · rw [show k = u.toNat by omega] at h ⊢; omega
                   · exact w2 k (by omega) h)
                | exact Or.inr ⟨rfl, u.toNat, by omega, by omega, by omega⟩
                | exact absurd w1 (by omega)
            · first
                | exact Or.inr ⟨rfl, k, by omega, w3, w4⟩
                | exact absurd w1 (by omega)))
            · refine z_iconst dX8_areSo_39 ?_
              refine z_goto (tgt := 44) dX8_areSo_40 (by decide) ?_
              refine z_istore_n [(2, .int (iI 1)), (3, .int (iI u)), (0, .ref (q 0)), (1, .int (iI tt))] dX8_areSo_44 rfl (by decide) rfl ?_
              refine z_iinc (j := 1) [(3, .int (iI (u + 1))), (2, .int (iI 1)), (0, .ref (q 0)), (1, .int (iI tt))] dX8_areSo_45 rfl (by decide) rfl ?_
              refine z_goto (tgt := 4) dX8_areSo_48 (by decide) ?_
              exact z_sub [(3, .int (iI (u + 1))), (2, .int (iI 1)), (0, .ref (q 0)), (1, .int (iI tt))] [0, 1, 2, 3] rfl (ih_4 (u + 1) 1 (by omega) (by omega) (by
            rcases hv with ⟨w1, w2⟩ | ⟨w1, k, w2, w3, w4⟩
            · first
                | (refine Or.inl ⟨rfl, fun k hk h => ?_⟩
                   by_cases hq : (k : Int) = u
                   · rw [show k = u.toNat by omega] at h ⊢; omega
                   · exact w2 k (by omega) h)
                | exact Or.inr ⟨rfl, u.toNat, by omega, by omega, by omega⟩
                | exact absurd w1 (by omega)
            · first
                | exact Or.inr ⟨rfl, k, by omega, w3, w4⟩
                | exact absurd w1 (by omega)))
  exact z_sub [(3, .int (iI 0)), (2, .int (iI 1)), (0, .ref (q 0)), (1, .int (iI tt))] [0, 1, 2, 3] rfl (hl_4 _ 0 1 (Nat.lt_succ_self _) (by omega) (Or.inl ⟨rfl, fun k hk => absurd hk (by omega)⟩))
theorem m_X8_isWay_f147 : Cond.fieldLink RX8 147 "PoleBehindModel" "cellNow" "I" ∈ wsX8_isWay := List.mem_of_getElem? (i := 1) rfl
theorem in_X8_isWay_X8 : ∀ w ∈ wsX80, w ∈ wsX8_isWay := fun _ h => List.mem_cons_of_mem _ (List.mem_append_right _ h)
theorem m_X8_isWay_f150 : Cond.fieldLink RX8 150 "PoleBehindModel" "paceNow" "I" ∈ wsX8_isWay := List.mem_of_getElem? (i := 2) rfl
theorem cd_X8_areSo : yX8_areSo.cls = RX8 ∧ yX8_areSo.cls ≠ "java/lang/invoke/MethodHandle" ∧ yX8_areSo.cls ≠ "java/lang/invoke/VarHandle" ∧ (parseMethodDescriptor yX8_areSo.desc).map (fun d => d.parameters.length) = some 1 := ⟨rfl, by decide +kernel, by decide +kernel, by decide +kernel⟩
set_option maxHeartbeats 400000 in
set_option maxRecDepth 100000 in
theorem c_X8_isWay {l : Launch} {D : va_G} {cI cJ cZ cR : ClassId} {q : Nat → Nat} {mi : Nat → Int} {ma : Nat → Nat → Int} (hq : qOk 18 q) {rx nn : Int} (hR : MRv mi ma) (h1 : 1 ≤ mi 1) (h22 : 0 ≤ mi 22 ∧ mi 22 ≤ 8) (hTr : ∀ k : Nat, -2147483648 ≤ ma 12 k ∧ ma 12 k < 2147483648) (hCr : ∀ k : Nat, -2147483648 ≤ ma 13 k ∧ ma 13 k < 2147483648) (hn : 0 ≤ nn ∧ nn ≤ 7) (hrw : 0 ≤ rx ∧ rx < 20000) : Cti l D vwCl (tysC cI cJ cZ cR) 18 q yX8_isWay wsX8_isWay ({ frames := 3, cells := 0, slots := 0, locals := 65 } : Room) [.ref (q 0), .int (iI rx), .int (iI nn)] (cM cI cJ cZ q mi ma) (fun (r : Int32) (g : Nat → va_E) => ∃ (mi' : Nat → Int), (((okW (rvM mi ma) (alA (vM mi ma)) nn.toNat rx.toNat nn.toNat (mi 2) = true ∧ ∀ k, k ≠ 14 → k ≠ 15 → k ≠ 16 → k ≠ 17 → k ≠ 18 → mi' k = mi k) ∧ r = iI 1) ∨ ((okW (rvM mi ma) (alA (vM mi ma)) nn.toNat rx.toNat nn.toNat (mi 2) = false ∧ ∀ k, k ≠ 14 → k ≠ 15 → k ≠ 16 → k ≠ 17 → k ≠ 18 → mi' k = mi k) ∧ r = iI 0)) ∧ g = (cM cI cJ cZ q mi' ma)) := by
  refine Cti.of (cc := cX8_isWay) (nL := 6) (own := RX8) (ret := (some .boolean)) (by decide) rfl rfl hq (Nat.le_of_ble_eq_true rfl) (fun p e s m args below meth c => ?_)
  obtain ⟨hN, hP, hK, hM, hD, hB⟩ := id hR
  have hRM := MRv_M hR
  have hnn : rN (rvM mi ma) = mi 1 := rfl
  refine z_aload_n (j := 0) dX8_isWay_0 rfl rfl ?_
  refine z_callVv (i := 0) (ci := 8) (As := []) (rest := []) (c_X8_beginPlan  hq ) dX8_isWay_1 gX8_isWay_X8_beginPlan rfl cd_X8_beginPlan ⟨Nat.le_of_ble_eq_true rfl, Nat.le_of_ble_eq_true rfl⟩ rfl rfl (by omega) rfl rfl rfl (Nat.le_of_ble_eq_true rfl) ⟨Nat.zero_le _, Nat.zero_le _⟩ (fun g_1 hp_1 => ?_)
  obtain ⟨mi_1, he_1, rfl⟩ := hp_1
  have z14 : mi_1 14 = 0 ∧ mi_1 15 = mi 2 ∧ mi_1 18 = 0 := by rw [he_1]; exact ⟨rfl, rfl, rfl⟩
  have zfr : ∀ k, k ≠ 14 → k ≠ 15 → k ≠ 16 → k ≠ 17 → k ≠ 18 → mi_1 k = mi k := fun k a1 a2 a3 a4 a5 => by rw [he_1, up_n a5, up_n a4, up_n a3, up_n a2, up_n a1]
  refine z_iconst dX8_isWay_4 ?_
  refine z_istore_n [(3, .int (iI 1)), (0, .ref (q 0)), (1, .int (iI rx)), (2, .int (iI nn))] dX8_isWay_5 rfl (by decide) rfl ?_
  refine z_iconst dX8_isWay_6 ?_
  refine z_istore [(4, .int (iI 0)), (3, .int (iI 1)), (0, .ref (q 0)), (1, .int (iI rx)), (2, .int (iI nn))] dX8_isWay_7 (by decide) rfl ?_
  have hl_9 : ∀ (N_9 : Nat) (u : Int) (b : Int) (yi : Nat → Int), (10 - u).toNat < N_9 → (0 ≤ u ∧ u ≤ nn) → (∀ k, k ≠ 14 → k ≠ 15 → k ≠ 16 → k ≠ 17 → k ≠ 18 → yi k = mi k) → (∃ po : Nat, yi 18 = ((po : Nat) : Int)) → (0 ≤ yi 14 ∧ yi 14 < mi 1 ∧ 0 ≤ yi 15 ∧ yi 15 ≤ 3) → ((b = 1 ∧ okW (rvM mi ma) (alA (vM mi ma)) nn.toNat rx.toNat nn.toNat (mi 2) = okW (rvM mi ma) (alA (vM mi ma)) nn.toNat rx.toNat (nn - u).toNat (4 * yi 14 + yi 15)) ∨ (b = 0 ∧ okW (rvM mi ma) (alA (vM mi ma)) nn.toNat rx.toNat nn.toNat (mi 2) = false)) → ZMi l D vwCl (tysC cI cJ cZ cR) 18 q ({ frames := 3, cells := 0, slots := 0, locals := 65 } : Room) cX8_isWay 6 RX8 wsX8_isWay (some .boolean) (fun (r : Int32) (g : Nat → va_E) => ∃ (mi' : Nat → Int), (((okW (rvM mi ma) (alA (vM mi ma)) nn.toNat rx.toNat nn.toNat (mi 2) = true ∧ ∀ k, k ≠ 14 → k ≠ 15 → k ≠ 16 → k ≠ 17 → k ≠ 18 → mi' k = mi k) ∧ r = iI 1) ∨ ((okW (rvM mi ma) (alA (vM mi ma)) nn.toNat rx.toNat nn.toNat (mi 2) = false ∧ ∀ k, k ≠ 14 → k ≠ 15 → k ≠ 16 → k ≠ 17 → k ≠ 18 → mi' k = mi k) ∧ r = iI 0)) ∧ g = (cM cI cJ cZ q mi' ma)) p e s m args below meth c (cM cI cJ cZ q yi ma) 9 [(4, .int (iI u)), (3, .int (iI b)), (0, .ref (q 0)), (1, .int (iI rx)), (2, .int (iI nn))] [] := by
    intro N_9
    induction N_9 with
    | zero => intro u b yi hm; exact absurd hm (Nat.not_lt_zero _)
    | succ N_9 ih_9 =>
      intro u b yi hm_9 hu hfr hpx hc hv
      have hRy := MRv_eq (hfr 1 (by decide) (by decide) (by decide) (by decide) (by decide)) (hfr 2 (by decide) (by decide) (by decide) (by decide) (by decide)) rfl rfl rfl rfl hR
      have hEy : rvM yi ma = (rvM mi ma) := rvM_eq (hfr 1 (by decide) (by decide) (by decide) (by decide) (by decide)) rfl rfl rfl rfl
      have h1y := hfr 1 (by decide) (by decide) (by decide) (by decide) (by decide)
      have hb01 : b = 0 ∨ b = 1 := hv.elim (fun h => Or.inr h.1) (fun h => Or.inl h.1)
      refine z_iload (j := 0) dX8_isWay_9 rfl ?_
      refine z_iload_n (j := 4) dX8_isWay_11 rfl rfl ?_
      refine z_icmp_ge (tgt := 73) dX8_isWay_12 (by decide) (by omega) (by omega) (fun c_12 => ?_) (fun c_12 => ?_)
      · refine z_iload_n (j := 1) dX8_isWay_73 rfl rfl ?_
        exact z_zret dX8_isWay_74 (hb01.elim (fun h => Or.inl (by rw [h])) (fun h => Or.inr (by rw [h]))) ⟨yi, by
      rcases hv with ⟨w1, w2⟩ | ⟨w1, w2⟩
      · have hun : nn - u = 0 := by omega
        rw [hun] at w2
        exact Or.inl ⟨⟨w2, hfr⟩, by rw [w1]⟩
      · exact Or.inr ⟨⟨w2, hfr⟩, by rw [w1]⟩, rfl⟩
      · refine z_iload_n (j := 1) dX8_isWay_15 rfl rfl ?_
        refine z_if_eq (tgt := 73) dX8_isWay_16 (by decide) (by omega) (fun c_16 => ?_) (fun c_16 => ?_)
        · refine z_iload_n (j := 1) dX8_isWay_73 rfl rfl ?_
          exact z_zret dX8_isWay_74 (hb01.elim (fun h => Or.inl (by rw [h])) (fun h => Or.inr (by rw [h]))) ⟨yi, by
      rcases hv with ⟨w1, w2⟩ | ⟨w1, w2⟩
      · have hun : nn - u = 0 := by omega
        rw [hun] at w2
        exact Or.inl ⟨⟨w2, hfr⟩, by rw [w1]⟩
      · exact Or.inr ⟨⟨w2, hfr⟩, by rw [w1]⟩, rfl⟩
        · have hvb := (hv.resolve_right (fun h => c_16 h.1)).2
          obtain ⟨po, hpo⟩ := hpx
          obtain ⟨ac, hac⟩ : ∃ ac : Int, ((rx.toNat / 4 ^ (nn - 1 - u).toNat % 4 : Nat) : Int) = ac := ⟨_, rfl⟩
          have hacr : 0 ≤ ac ∧ ac ≤ 3 := by omega
          have hst := okW_step (R := (rvM mi ma)) (al := (alA (vM mi ma))) (n := nn.toNat) (s := 4 * yi 14 + yi 15) hac
          rw [show (nn - 1 - u).toNat + 1 = (nn - u).toNat by omega, show nn.toNat - (nn - 1 - u).toNat = (u + 1).toNat by omega] at hst
          refine z_iload_n (j := 3) dX8_isWay_19 rfl rfl ?_
          refine z_iconst dX8_isWay_20 ?_
          refine z_iload_n (j := 4) dX8_isWay_21 rfl rfl ?_
          refine z_iconst dX8_isWay_22 ?_
          refine z_isub dX8_isWay_23 ?_
          refine z_iload (j := 0) dX8_isWay_24 rfl ?_
          refine z_isub dX8_isWay_26 ?_
          refine z_imul dX8_isWay_27 ?_
          refine z_ishr (iI ((rx.toNat / 4 ^ (nn - 1 - u).toNat : Nat) : Int)) dX8_isWay_28 (by rw [bi_shr (castN hrw.1).symm (by omega) (by omega), pow4_2 (by omega)]) ?_
          refine z_iconst dX8_isWay_29 ?_
          refine z_iand (iI ac) dX8_isWay_30 (by rw [bi_and3, hac]) ?_
          refine z_istore [(5, .int (iI ac)), (4, .int (iI u)), (3, .int (iI b)), (0, .ref (q 0)), (1, .int (iI rx)), (2, .int (iI nn))] dX8_isWay_31 (by decide) rfl ?_
          refine z_aload_n (j := 3) dX8_isWay_33 rfl rfl ?_
          refine z_iload (j := 0) dX8_isWay_34 rfl ?_
          refine z_aload_n (j := 3) dX8_isWay_36 rfl rfl ?_
          refine z_getf (i := 0) (ci := 8) (k := 14) (v := .int (iI (yi 14))) dX8_isWay_37 m_X8_isWay_f147 in_X8_isWay_X8 rfl (by decide) rfl (by omega) rfl rfl ?_
          refine z_aload_n (j := 3) dX8_isWay_40 rfl rfl ?_
          refine z_getf (i := 0) (ci := 8) (k := 15) (v := .int (iI (yi 15))) dX8_isWay_41 m_X8_isWay_f150 in_X8_isWay_X8 rfl (by decide) rfl (by omega) rfl rfl ?_
          refine z_callVi (i := 0) (ci := 8) (As := [.int (iI ac), .int (iI (yi 14)), .int (iI (yi 15))]) (rest := []) (c_X8_canAct  hq hRy (by omega) (by omega) (by omega)) dX8_isWay_44 gX8_isWay_X8_canAct rfl cd_X8_canAct ⟨Nat.le_of_ble_eq_true rfl, Nat.le_of_ble_eq_true rfl⟩ rfl rfl (by omega) rfl rfl rfl (Nat.le_of_ble_eq_true rfl) ⟨Nat.zero_le _, Nat.zero_le _⟩ (fun r_44 g_44 hp_44 => ?_)
          obtain ⟨⟨h_44, rfl⟩ | ⟨h_44, rfl⟩, rfl⟩ := hp_44
          · refine z_istore_n [(3, .int (iI 1)), (5, .int (iI ac)), (4, .int (iI u)), (0, .ref (q 0)), (1, .int (iI rx)), (2, .int (iI nn))] dX8_isWay_47 rfl (by decide) rfl ?_
            refine z_iload_n (j := 0) dX8_isWay_48 rfl rfl ?_
            refine z_if_eq (tgt := 67) dX8_isWay_49 (by decide) (by decide) (fun h => absurd h (by decide)) (fun _ => ?_)
            refine z_aload_n (j := 3) dX8_isWay_52 rfl rfl ?_
            refine z_iload (j := 1) dX8_isWay_53 rfl ?_
            refine z_callVv (i := 0) (ci := 8) (As := [.int (iI ac)]) (rest := []) (c_X8_goTurn  hq hRy (by omega) (by omega) (by omega) hpo) dX8_isWay_55 gX8_isWay_X8_goTurn rfl cd_X8_goTurn ⟨Nat.le_of_ble_eq_true rfl, Nat.le_of_ble_eq_true rfl⟩ rfl rfl (by omega) rfl rfl rfl (Nat.le_of_ble_eq_true rfl) ⟨Nat.zero_le _, Nat.zero_le _⟩ (fun g_55 hp_55 => ?_)
            obtain ⟨mi_55, he_55, rfl⟩ := hp_55
            rw [hEy] at h_44
            obtain ⟨-, g18, g15, g14, gfr⟩ := he_55
            have hay := aftA_yes hc.1 hc.2.2 h_44
            have hcr := celA_rng (R := rvM mi ma) (act := ac) hc.1 hc.2.2 (by rw [hnn]; omega)
            have hpr := pacA_rng ac (yi 15) hc.2.2
            rw [h1y] at g14
            rw [hnn] at hay hcr
            rw [← g15] at hay hpr hcr g14
            rw [← g14] at hay hcr
            have w22 : mi_55 22 = mi 22 := (gfr 22 (by decide) (by decide) (by decide) (by decide)).trans (hfr 22 (by decide) (by decide) (by decide) (by decide) (by decide))
            have hal := alM_iff (mi := mi) (ma := ma) h22.2 (t := (u + 1).toNat) (cc := mi_55 14)
            rw [castN (by omega)] at hal
            refine z_aload_n (j := 3) dX8_isWay_58 rfl rfl ?_
            refine z_iload (j := 2) dX8_isWay_59 rfl ?_
            refine z_iconst dX8_isWay_61 ?_
            refine z_iadd dX8_isWay_62 ?_
            refine z_callVi (i := 0) (ci := 8) (As := [.int (iI (u + 1))]) (rest := []) (c_X8_areSo  hq (by rw [w22]; exact h22) hTr hCr (by omega) (by omega)) dX8_isWay_63 gX8_isWay_X8_areSo rfl cd_X8_areSo ⟨Nat.le_of_ble_eq_true rfl, Nat.le_of_ble_eq_true rfl⟩ rfl rfl (by omega) rfl rfl rfl (Nat.le_of_ble_eq_true rfl) ⟨Nat.zero_le _, Nat.zero_le _⟩ (fun r_63 g_63 hp_63 => ?_)
            obtain ⟨⟨h_63, rfl⟩ | ⟨h_63, rfl⟩, rfl⟩ := hp_63
            · refine z_istore_n [(3, .int (iI 1)), (5, .int (iI ac)), (4, .int (iI u)), (0, .ref (q 0)), (1, .int (iI rx)), (2, .int (iI nn))] dX8_isWay_66 rfl (by decide) rfl ?_
              refine z_iinc (j := 2) [(4, .int (iI (u + 1))), (3, .int (iI 1)), (5, .int (iI ac)), (0, .ref (q 0)), (1, .int (iI rx)), (2, .int (iI nn))] dX8_isWay_67 rfl (by decide) rfl ?_
              refine z_goto (tgt := 9) dX8_isWay_70 (by decide) ?_
              exact z_sub [(4, .int (iI (u + 1))), (3, .int (iI 1)), (0, .ref (q 0)), (1, .int (iI rx)), (2, .int (iI nn))] [0, 1, 3, 4, 5] rfl (ih_9 (u + 1) 1 mi_55 (by omega) (by omega) (by
            first
              | exact fun k a1 a2 a3 a4 a5 => (gfr k a1 a2 a4 a5).trans (hfr k a1 a2 a3 a4 a5)
              | exact hfr) (by
            first
              | exact ⟨_, g18⟩
              | exact ⟨po, hpo⟩) (by
            first
              | exact ⟨hcr.1, hcr.2, hpr⟩
              | exact hc) (by
            first
              | (refine Or.inl ⟨rfl, ?_⟩
                 rw [w22] at h_63
                 rw [hvb, hst, hay, decide_eq_false (by omega), show (4 * mi_55 14 + mi_55 15) / 4 = mi_55 14 by omega, hal.mpr h_63, show (nn - (u + 1)).toNat = (nn - 1 - u).toNat by omega]
                 rfl)
              | (refine Or.inr ⟨rfl, ?_⟩
                 rw [w22] at h_63
                 rw [hvb, hst, hay, show (4 * mi_55 14 + mi_55 15) / 4 = mi_55 14 by omega, Bool.eq_false_iff.mpr (fun q => h_63 (hal.mp q)), Bool.false_and, Bool.and_false])
              | (refine Or.inr ⟨rfl, ?_⟩
                 rw [hEy] at h_44
                 rw [hvb, hst, aftA_no hc.1 hc.2.2 h_44, decide_eq_true rfl]
                 rfl)))
            · refine z_istore_n [(3, .int (iI 0)), (5, .int (iI ac)), (4, .int (iI u)), (0, .ref (q 0)), (1, .int (iI rx)), (2, .int (iI nn))] dX8_isWay_66 rfl (by decide) rfl ?_
              refine z_iinc (j := 2) [(4, .int (iI (u + 1))), (3, .int (iI 0)), (5, .int (iI ac)), (0, .ref (q 0)), (1, .int (iI rx)), (2, .int (iI nn))] dX8_isWay_67 rfl (by decide) rfl ?_
              refine z_goto (tgt := 9) dX8_isWay_70 (by decide) ?_
              exact z_sub [(4, .int (iI (u + 1))), (3, .int (iI 0)), (0, .ref (q 0)), (1, .int (iI rx)), (2, .int (iI nn))] [0, 1, 3, 4, 5] rfl (ih_9 (u + 1) 0 mi_55 (by omega) (by omega) (by
            first
              | exact fun k a1 a2 a3 a4 a5 => (gfr k a1 a2 a4 a5).trans (hfr k a1 a2 a3 a4 a5)
              | exact hfr) (by
            first
              | exact ⟨_, g18⟩
              | exact ⟨po, hpo⟩) (by
            first
              | exact ⟨hcr.1, hcr.2, hpr⟩
              | exact hc) (by
            first
              | (refine Or.inl ⟨rfl, ?_⟩
                 rw [w22] at h_63
                 rw [hvb, hst, hay, decide_eq_false (by omega), show (4 * mi_55 14 + mi_55 15) / 4 = mi_55 14 by omega, hal.mpr h_63, show (nn - (u + 1)).toNat = (nn - 1 - u).toNat by omega]
                 rfl)
              | (refine Or.inr ⟨rfl, ?_⟩
                 rw [w22] at h_63
                 rw [hvb, hst, hay, show (4 * mi_55 14 + mi_55 15) / 4 = mi_55 14 by omega, Bool.eq_false_iff.mpr (fun q => h_63 (hal.mp q)), Bool.false_and, Bool.and_false])
              | (refine Or.inr ⟨rfl, ?_⟩
                 rw [hEy] at h_44
                 rw [hvb, hst, aftA_no hc.1 hc.2.2 h_44, decide_eq_true rfl]
                 rfl)))
          · refine z_istore_n [(3, .int (iI 0)), (5, .int (iI ac)), (4, .int (iI u)), (0, .ref (q 0)), (1, .int (iI rx)), (2, .int (iI nn))] dX8_isWay_47 rfl (by decide) rfl ?_
            refine z_iload_n (j := 0) dX8_isWay_48 rfl rfl ?_
            refine z_if_eq (tgt := 67) dX8_isWay_49 (by decide) (by decide) (fun _ => ?_) (fun h => absurd h (by decide))
            refine z_iinc (j := 2) [(4, .int (iI (u + 1))), (3, .int (iI 0)), (5, .int (iI ac)), (0, .ref (q 0)), (1, .int (iI rx)), (2, .int (iI nn))] dX8_isWay_67 rfl (by decide) rfl ?_
            refine z_goto (tgt := 9) dX8_isWay_70 (by decide) ?_
            exact z_sub [(4, .int (iI (u + 1))), (3, .int (iI 0)), (0, .ref (q 0)), (1, .int (iI rx)), (2, .int (iI nn))] [0, 1, 3, 4, 5] rfl (ih_9 (u + 1) 0 yi (by omega) (by omega) (by
            first
              | exact fun k a1 a2 a3 a4 a5 => (gfr k a1 a2 a4 a5).trans (hfr k a1 a2 a3 a4 a5)
              | exact hfr) (by
            first
              | exact ⟨_, g18⟩
              | exact ⟨po, hpo⟩) (by
            first
              | exact ⟨hcr.1, hcr.2, hpr⟩
              | exact hc) (by
            first
              | (refine Or.inl ⟨rfl, ?_⟩
                 rw [w22] at h_63
                 rw [hvb, hst, hay, decide_eq_false (by omega), show (4 * mi_55 14 + mi_55 15) / 4 = mi_55 14 by omega, hal.mpr h_63, show (nn - (u + 1)).toNat = (nn - 1 - u).toNat by omega]
                 rfl)
              | (refine Or.inr ⟨rfl, ?_⟩
                 rw [w22] at h_63
                 rw [hvb, hst, hay, show (4 * mi_55 14 + mi_55 15) / 4 = mi_55 14 by omega, Bool.eq_false_iff.mpr (fun q => h_63 (hal.mp q)), Bool.false_and, Bool.and_false])
              | (refine Or.inr ⟨rfl, ?_⟩
                 rw [hEy] at h_44
                 rw [hvb, hst, aftA_no hc.1 hc.2.2 h_44, decide_eq_true rfl]
                 rfl)))
  exact z_sub [(4, .int (iI 0)), (3, .int (iI 1)), (0, .ref (q 0)), (1, .int (iI rx)), (2, .int (iI nn))] [0, 1, 2, 3, 4] rfl (hl_9 _ 0 1 mi_1 (Nat.lt_succ_self _) (by omega) (zfr) (⟨0, z14.2.2⟩) (by omega) (Or.inl ⟨rfl, by rw [z14.1, z14.2.1, show 4 * 0 + mi 2 = mi 2 by omega, show (nn - 0).toNat = nn.toNat by omega]⟩))
theorem m_X8_ways_C232 : Cond.constantLong RX8 232 (lI (7)) ∈ wsX8_ways := List.mem_of_getElem? (i := 1) (by decide +kernel)
theorem m_X8_ways_C222 : Cond.constantLong RX8 222 (lI (-1)) ∈ wsX8_ways := List.mem_of_getElem? (i := 2) (by decide +kernel)
theorem m_X8_ways_C234 : Cond.constantLong RX8 234 (lI (6)) ∈ wsX8_ways := List.mem_of_getElem? (i := 3) (by decide +kernel)
theorem m_X8_ways_f75 : Cond.fieldLink RX8 75 "PoleBehindModel" "cells" "I" ∈ wsX8_ways := List.mem_of_getElem? (i := 4) rfl
theorem in_X8_ways_X8 : ∀ w ∈ wsX80, w ∈ wsX8_ways := fun _ h => List.mem_cons_of_mem _ (List.mem_append_right _ h)
theorem cd_X8_isWay : yX8_isWay.cls = RX8 ∧ yX8_isWay.cls ≠ "java/lang/invoke/MethodHandle" ∧ yX8_isWay.cls ≠ "java/lang/invoke/VarHandle" ∧ (parseMethodDescriptor yX8_isWay.desc).map (fun d => d.parameters.length) = some 2 := ⟨rfl, by decide +kernel, by decide +kernel, by decide +kernel⟩
set_option maxHeartbeats 400000 in
set_option maxRecDepth 100000 in
theorem c_X8_ways {l : Launch} {D : va_G} {cI cJ cZ cR : ClassId} {q : Nat → Nat} {mi : Nat → Int} {ma : Nat → Nat → Int} (hq : qOk 18 q) {nn qq : Int} (hO : MOk mi ma) (hnn2 : -2147483648 ≤ nn ∧ nn < 2147483648) (hqq : -2147483648 ≤ qq ∧ qq < 2147483648) (hTm : ∀ k : Nat, (k : Int) < mi 22 → 1 ≤ ma 12 k) : Cti l D vwCl (tysC cI cJ cZ cR) 18 q yX8_ways wsX8_ways ({ frames := 4, cells := 0, slots := 0, locals := 90 } : Room) [.ref (q 0), .int (iI nn), .int (iI qq)] (cM cI cJ cZ q mi ma) (fun (r : Int32) (g : Nat → va_E) => ∃ (e : Int) (mi' : Nat → Int), (spWays (vM mi ma) nn qq e ∧ vM mi' ma = (vM mi ma) ∧ MOk mi' ma) ∧ r = iI e ∧ g = (cM cI cJ cZ q mi' ma)) := by
  refine Cti.of (cc := cX8_ways) (nL := 6) (own := RX8) (ret := (some .int)) (by decide) rfl rfl hq (Nat.le_of_ble_eq_true rfl) (fun p e s m args below meth c => ?_)
  obtain ⟨hR, hn2, hQ, hSh, hSn, hHd, hRdg, hfa⟩ := id hO
  obtain ⟨hN, hP, hK, hM, hD, hB⟩ := id hR
  have hRM := MRv_M hR
  have hnn : rN (rvM mi ma) = mi 1 := rfl
  have hnA : rN (aR (vM mi ma)) = mi 1 := rfl
  refine z_iload_n (j := 1) dX8_ways_0 rfl rfl ?_
  refine z_i2l dX8_ways_1 (by omega) ?_
  refine z_lconst (z := 0) dX8_ways_2 (by decide) ?_
  refine z_ldc2 dX8_ways_3 m_X8_ways_C232 ?_
  refine z_callSi (As := [.long (lI nn), .long (lI 0), .long (lI 7)]) (rest := []) (c_X8_in  hq (by omega) (by omega) (by omega)) dX8_ways_6 gX8_ways_X8_in rfl cd_X8_in ⟨Nat.le_of_ble_eq_true rfl, Nat.le_of_ble_eq_true rfl⟩ rfl rfl rfl (Nat.le_of_ble_eq_true rfl) ⟨Nat.zero_le _, Nat.zero_le _⟩ (fun r_6 g_6 hp_6 => ?_)
  obtain ⟨⟨h_6, rfl⟩ | ⟨h_6, rfl⟩, rfl⟩ := hp_6
  · refine z_if_eq (tgt := 26) dX8_ways_9 (by decide) (by decide) (fun h => absurd h (by decide)) (fun _ => ?_)
    refine z_iload_n (j := 2) dX8_ways_12 rfl rfl ?_
    refine z_i2l dX8_ways_13 (by omega) ?_
    refine z_ldc2 dX8_ways_14 m_X8_ways_C222 ?_
    refine z_ldc2 dX8_ways_17 m_X8_ways_C234 ?_
    refine z_callSi (As := [.long (lI qq), .long (lI (-1)), .long (lI 6)]) (rest := []) (c_X8_in  hq (by omega) (by omega) (by omega)) dX8_ways_20 gX8_ways_X8_in rfl cd_X8_in ⟨Nat.le_of_ble_eq_true rfl, Nat.le_of_ble_eq_true rfl⟩ rfl rfl rfl (Nat.le_of_ble_eq_true rfl) ⟨Nat.zero_le _, Nat.zero_le _⟩ (fun r_20 g_20 hp_20 => ?_)
    obtain ⟨⟨h_20, rfl⟩ | ⟨h_20, rfl⟩, rfl⟩ := hp_20
    · refine z_if_ne (tgt := 29) dX8_ways_23 (by decide) (by decide) (fun _ => ?_) (fun h => absurd h (by decide))
      refine z_aload_n (j := 0) dX8_ways_29 rfl rfl ?_
      refine z_getf (i := 0) (ci := 8) (k := 1) (v := .int (iI (mi 1))) dX8_ways_30 m_X8_ways_f75 in_X8_ways_X8 rfl (by decide) rfl (by omega) rfl rfl ?_
      refine z_if_ne (tgt := 39) dX8_ways_33 (by decide) (by omega) (fun c_33 => ?_) (fun c_33 => ?_)
      · refine z_iconst dX8_ways_39 ?_
        refine z_istore_n [(3, .int (iI 0)), (0, .ref (q 0)), (1, .int (iI nn)), (2, .int (iI qq))] dX8_ways_40 rfl (by decide) rfl ?_
        refine z_bipush dX8_ways_41 (by decide) ?_
        refine z_istore [(4, .int (iI (-9))), (3, .int (iI 0)), (0, .ref (q 0)), (1, .int (iI nn)), (2, .int (iI qq))] dX8_ways_43 (by decide) rfl ?_
        refine z_iconst dX8_ways_45 ?_
        refine z_istore [(5, .int (iI 0)), (4, .int (iI (-9))), (3, .int (iI 0)), (0, .ref (q 0)), (1, .int (iI nn)), (2, .int (iI qq))] dX8_ways_46 (by decide) rfl ?_
        have hl_48 : ∀ (N_48 : Nat) (u : Int) (mn : Int) (fs : Int) (yi : Nat → Int), (20000 - u).toNat < N_48 → (0 ≤ u ∧ u ≤ ((4 ^ nn.toNat : Nat) : Int)) → (∀ k, k ≠ 14 → k ≠ 15 → k ≠ 16 → k ≠ 17 → k ≠ 18 → yi k = mi k) → (mn = ((cntW (fun r => okW (rvM mi ma) (alA (vM mi ma)) nn.toNat r nn.toNat (mi 2)) u.toNat : Nat) : Int)) → (fstOk (fun r => okW (rvM mi ma) (alA (vM mi ma)) nn.toNat r nn.toNat (mi 2)) u.toNat fs) → ZMi l D vwCl (tysC cI cJ cZ cR) 18 q ({ frames := 4, cells := 0, slots := 0, locals := 90 } : Room) cX8_ways 6 RX8 wsX8_ways (some .int) (fun (r : Int32) (g : Nat → va_E) => ∃ (e : Int) (mi' : Nat → Int), (spWays (vM mi ma) nn qq e ∧ vM mi' ma = (vM mi ma) ∧ MOk mi' ma) ∧ r = iI e ∧ g = (cM cI cJ cZ q mi' ma)) p e s m args below meth c (cM cI cJ cZ q yi ma) 48 [(5, .int (iI u)), (4, .int (iI fs)), (3, .int (iI mn)), (0, .ref (q 0)), (1, .int (iI nn)), (2, .int (iI qq))] [] := by
          intro N_48
          induction N_48 with
          | zero => intro u mn fs yi hm; exact absurd hm (Nat.not_lt_zero _)
          | succ N_48 ih_48 =>
            intro u mn fs yi hm_48 hu hfr hmn hf
            have hRy := MRv_eq (hfr 1 (by decide) (by decide) (by decide) (by decide) (by decide)) (hfr 2 (by decide) (by decide) (by decide) (by decide) (by decide)) rfl rfl rfl rfl hR
            have hEy : rvM yi ma = (rvM mi ma) := rvM_eq (hfr 1 (by decide) (by decide) (by decide) (by decide) (by decide)) rfl rfl rfl rfl
            have h1y := hfr 1 (by decide) (by decide) (by decide) (by decide) (by decide)
            have h2y := hfr 2 (by decide) (by decide) (by decide) (by decide) (by decide)
            have h22y := hfr 22 (by decide) (by decide) (by decide) (by decide) (by decide)
            have hay : alA (vM yi ma) = (alA (vM mi ma)) := by rw [show vM yi ma = vM mi ma from vM_pl (fun k _ a1 a2 a3 a4 a5 => hfr k a1 a2 a3 a4 a5) (hfr 0 (by decide) (by decide) (by decide) (by decide) (by decide))]
            have hfr9 : fs = -9 ∨ (0 ≤ fs ∧ fs < u) := by
              rcases hf with h | ⟨r0, q1, q2, _⟩
              · exact Or.inl h.1
              · exact Or.inr (by omega)
            have hmn0 : 0 ≤ mn := by omega
            have h4p := pow4_leM (show nn.toNat ≤ 7 by omega)
            refine z_iload (j := 0) dX8_ways_48 rfl ?_
            refine z_iconst dX8_ways_50 ?_
            refine z_iconst dX8_ways_51 ?_
            refine z_iload_n (j := 4) dX8_ways_52 rfl rfl ?_
            refine z_imul dX8_ways_53 ?_
            refine z_ishl (iI ((4 ^ nn.toNat : Nat) : Int)) dX8_ways_54 (by rw [bi_shl (by omega), pow4_2 (by omega)]) ?_
            refine z_icmp_ge (tgt := 91) dX8_ways_55 (by decide) (by omega) (by omega) (fun c_55 => ?_) (fun c_55 => ?_)
            · have hun : u.toNat = 4 ^ nn.toNat := by omega
              rw [hun] at hmn hf
              have hcnt : mn = wayF (rvM mi ma) (alA (vM mi ma)) nn.toNat nn.toNat (mi 2) := by
                rw [wayF_cnt, if_pos (show (alA (vM mi ma)) (nn.toNat - nn.toNat) (mi 2 / 4) = true by rw [Nat.sub_self]; exact (alM_iff hRdg.1.2).mpr (fun k h1 h2 => absurd h2 (by have := hTm k h1; omega)))]
                exact hmn
              have hpos : (0 < wayF (rvM mi ma) (alA (vM mi ma)) nn.toNat nn.toNat (mi 2) → fs ≠ -9) ∧ (fs ≠ -9 → 0 < wayF (rvM mi ma) (alA (vM mi ma)) nn.toNat nn.toNat (mi 2)) := by
                rw [← hcnt, hmn]
                rcases hf with ⟨w1, w2⟩ | ⟨r0, w1, w2, w3, w4⟩
                · have h0 := cntW_no (P := (fun r => okW (rvM mi ma) (alA (vM mi ma)) nn.toNat r nn.toNat (mi 2))) (d := 4 ^ nn.toNat) (fun r hr => w2 r hr)
                  rw [h0]
                  exact ⟨fun h => absurd h (by decide), fun h => absurd w1 h⟩
                · have h0 := cntW_pos (P := (fun r => okW (rvM mi ma) (alA (vM mi ma)) nn.toNat r nn.toNat (mi 2))) w2 w3
                  exact ⟨fun _ => by omega, fun _ => by omega⟩
              have hv : vM yi ma = vM mi ma := vM_pl (fun k _ a1 a2 a3 a4 a5 => hfr k a1 a2 a3 a4 a5) (hfr 0 (by decide) (by decide) (by decide) (by decide) (by decide))
              have ho : MOk yi ma := MOk_pl hO (fun k _ a1 a2 a3 a4 a5 => hfr k a1 a2 a3 a4 a5) (by rw [hfr 0 (by decide) (by decide) (by decide) (by decide) (by decide)]; exact hfa)
              have hwr := wayF_rng (R := (rvM mi ma)) (al := (alA (vM mi ma))) (n := nn.toNat) hRM.1 nn.toNat (mi 2) hP.1
              have hw4 := pow4_le (show nn.toNat ≤ 7 by omega)
              refine z_iload_n (j := 5) dX8_ways_91 rfl rfl ?_
              refine z_if_ge (tgt := 99) dX8_ways_92 (by decide) (by omega) (fun c_92 => ?_) (fun c_92 => ?_)
              · have hwrq := hwr
                refine z_iload (j := 1) dX8_ways_99 rfl ?_
                refine z_if_lt (tgt := 109) dX8_ways_101 (by decide) (by omega) (fun c_101 => ?_) (fun c_101 => ?_)
                · refine z_bipush dX8_ways_109 (by decide) ?_
                  refine z_goto (tgt := 126) dX8_ways_111 (by decide) ?_
                  exact z_iret dX8_ways_126 ⟨_, _, (by
      unfold spWays; rw [if_neg (by omega), if_neg (by rw [hnA]; omega)]
      first
        | (rw [if_pos (by omega)]; exact ⟨hcnt, hv, ho⟩)
        | (rw [if_neg (by omega)]
           refine ⟨?_, hv, ho⟩
           show (if wayF (rvM mi ma) (alA (vM mi ma)) nn.toNat nn.toNat (mi 2) = 0 then _ else _)
           first
             | (rw [if_pos (show wayF (rvM mi ma) (alA (vM mi ma)) nn.toNat nn.toNat (mi 2) = 0 by omega)]; done)
             | (rw [if_neg (show ¬ wayF (rvM mi ma) (alA (vM mi ma)) nn.toNat nn.toNat (mi 2) = 0 by omega), if_neg (by omega)]; done)
             | (rw [if_neg (show ¬ wayF (rvM mi ma) (alA (vM mi ma)) nn.toNat nn.toNat (mi 2) = 0 by omega), if_pos (by omega)]
                show _ = fstW (rvM mi ma) (wayF (rvM mi ma) (alA (vM mi ma)) nn.toNat (nn.toNat - qq.toNat - 1)) (sptW (rvM mi ma) (alA (vM mi ma)) nn.toNat (mi 2) qq.toNat)
                rw [least_dig w2 w3 w4 (show qq.toNat < nn.toNat by omega), show (nn - 1 - qq).toNat = nn.toNat - qq.toNat - 1 by omega])
             | (by_cases hz : wayF (rvM mi ma) (alA (vM mi ma)) nn.toNat nn.toNat (mi 2) = 0
                · rw [if_pos hz]
                · rw [if_neg hz, if_neg (by omega)]))), rfl, rfl⟩
                · refine z_iload_n (j := 5) dX8_ways_104 rfl rfl ?_
                  refine z_iload_n (j := 4) dX8_ways_105 rfl rfl ?_
                  refine z_icmp_lt (tgt := 114) dX8_ways_106 (by decide) (by omega) (by omega) (fun c_106 => ?_) (fun c_106 => ?_)
                  · have hf2 := hf.resolve_left (fun h => by have := h.1; omega)
                    obtain ⟨r0, w1, w2, w3, w4⟩ := hf2
                    refine z_iload (j := 1) dX8_ways_114 rfl ?_
                    refine z_iconst dX8_ways_116 ?_
                    refine z_iload_n (j := 4) dX8_ways_117 rfl rfl ?_
                    refine z_iconst dX8_ways_118 ?_
                    refine z_isub dX8_ways_119 ?_
                    refine z_iload_n (j := 5) dX8_ways_120 rfl rfl ?_
                    refine z_isub dX8_ways_121 ?_
                    refine z_imul dX8_ways_122 ?_
                    refine z_ishr (iI ((r0 / 4 ^ (nn - 1 - qq).toNat : Nat) : Int)) dX8_ways_123 (by rw [bi_shr w1 (by omega) (by omega), pow4_2 (by omega)]) ?_
                    refine z_iconst dX8_ways_124 ?_
                    refine z_iand (iI ((r0 / 4 ^ (nn - 1 - qq).toNat % 4 : Nat) : Int)) dX8_ways_125 (bi_and3 _) ?_
                    exact z_iret dX8_ways_126 ⟨_, _, (by
      unfold spWays; rw [if_neg (by omega), if_neg (by rw [hnA]; omega)]
      first
        | (rw [if_pos (by omega)]; exact ⟨hcnt, hv, ho⟩)
        | (rw [if_neg (by omega)]
           refine ⟨?_, hv, ho⟩
           show (if wayF (rvM mi ma) (alA (vM mi ma)) nn.toNat nn.toNat (mi 2) = 0 then _ else _)
           first
             | (rw [if_pos (show wayF (rvM mi ma) (alA (vM mi ma)) nn.toNat nn.toNat (mi 2) = 0 by omega)]; done)
             | (rw [if_neg (show ¬ wayF (rvM mi ma) (alA (vM mi ma)) nn.toNat nn.toNat (mi 2) = 0 by omega), if_neg (by omega)]; done)
             | (rw [if_neg (show ¬ wayF (rvM mi ma) (alA (vM mi ma)) nn.toNat nn.toNat (mi 2) = 0 by omega), if_pos (by omega)]
                show _ = fstW (rvM mi ma) (wayF (rvM mi ma) (alA (vM mi ma)) nn.toNat (nn.toNat - qq.toNat - 1)) (sptW (rvM mi ma) (alA (vM mi ma)) nn.toNat (mi 2) qq.toNat)
                rw [least_dig w2 w3 w4 (show qq.toNat < nn.toNat by omega), show (nn - 1 - qq).toNat = nn.toNat - qq.toNat - 1 by omega])
             | (by_cases hz : wayF (rvM mi ma) (alA (vM mi ma)) nn.toNat nn.toNat (mi 2) = 0
                · rw [if_pos hz]
                · rw [if_neg hz, if_neg (by omega)]))), rfl, rfl⟩
                  · refine z_bipush dX8_ways_109 (by decide) ?_
                    refine z_goto (tgt := 126) dX8_ways_111 (by decide) ?_
                    exact z_iret dX8_ways_126 ⟨_, _, (by
      unfold spWays; rw [if_neg (by omega), if_neg (by rw [hnA]; omega)]
      first
        | (rw [if_pos (by omega)]; exact ⟨hcnt, hv, ho⟩)
        | (rw [if_neg (by omega)]
           refine ⟨?_, hv, ho⟩
           show (if wayF (rvM mi ma) (alA (vM mi ma)) nn.toNat nn.toNat (mi 2) = 0 then _ else _)
           first
             | (rw [if_pos (show wayF (rvM mi ma) (alA (vM mi ma)) nn.toNat nn.toNat (mi 2) = 0 by omega)]; done)
             | (rw [if_neg (show ¬ wayF (rvM mi ma) (alA (vM mi ma)) nn.toNat nn.toNat (mi 2) = 0 by omega), if_neg (by omega)]; done)
             | (rw [if_neg (show ¬ wayF (rvM mi ma) (alA (vM mi ma)) nn.toNat nn.toNat (mi 2) = 0 by omega), if_pos (by omega)]
                show _ = fstW (rvM mi ma) (wayF (rvM mi ma) (alA (vM mi ma)) nn.toNat (nn.toNat - qq.toNat - 1)) (sptW (rvM mi ma) (alA (vM mi ma)) nn.toNat (mi 2) qq.toNat)
                rw [least_dig w2 w3 w4 (show qq.toNat < nn.toNat by omega), show (nn - 1 - qq).toNat = nn.toNat - qq.toNat - 1 by omega])
             | (by_cases hz : wayF (rvM mi ma) (alA (vM mi ma)) nn.toNat nn.toNat (mi 2) = 0
                · rw [if_pos hz]
                · rw [if_neg hz, if_neg (by omega)]))), rfl, rfl⟩
              · refine z_iload_n (j := 2) dX8_ways_95 rfl rfl ?_
                refine z_goto (tgt := 126) dX8_ways_96 (by decide) ?_
                exact z_iret dX8_ways_126 ⟨_, _, (by
      unfold spWays; rw [if_neg (by omega), if_neg (by rw [hnA]; omega)]
      first
        | (rw [if_pos (by omega)]; exact ⟨hcnt, hv, ho⟩)
        | (rw [if_neg (by omega)]
           refine ⟨?_, hv, ho⟩
           show (if wayF (rvM mi ma) (alA (vM mi ma)) nn.toNat nn.toNat (mi 2) = 0 then _ else _)
           first
             | (rw [if_pos (show wayF (rvM mi ma) (alA (vM mi ma)) nn.toNat nn.toNat (mi 2) = 0 by omega)]; done)
             | (rw [if_neg (show ¬ wayF (rvM mi ma) (alA (vM mi ma)) nn.toNat nn.toNat (mi 2) = 0 by omega), if_neg (by omega)]; done)
             | (rw [if_neg (show ¬ wayF (rvM mi ma) (alA (vM mi ma)) nn.toNat nn.toNat (mi 2) = 0 by omega), if_pos (by omega)]
                show _ = fstW (rvM mi ma) (wayF (rvM mi ma) (alA (vM mi ma)) nn.toNat (nn.toNat - qq.toNat - 1)) (sptW (rvM mi ma) (alA (vM mi ma)) nn.toNat (mi 2) qq.toNat)
                rw [least_dig w2 w3 w4 (show qq.toNat < nn.toNat by omega), show (nn - 1 - qq).toNat = nn.toNat - qq.toNat - 1 by omega])
             | (by_cases hz : wayF (rvM mi ma) (alA (vM mi ma)) nn.toNat nn.toNat (mi 2) = 0
                · rw [if_pos hz]
                · rw [if_neg hz, if_neg (by omega)]))), rfl, rfl⟩
            · refine z_aload_n (j := 3) dX8_ways_58 rfl rfl ?_
              refine z_iload (j := 0) dX8_ways_59 rfl ?_
              refine z_iload_n (j := 4) dX8_ways_61 rfl rfl ?_
              refine z_callVi (i := 0) (ci := 8) (As := [.int (iI u), .int (iI nn)]) (rest := []) (c_X8_isWay  hq hRy (by omega) (by rw [h22y]; exact hRdg.1) hRdg.2.1 hRdg.2.2 (by omega) (by omega)) dX8_ways_62 gX8_ways_X8_isWay rfl cd_X8_isWay ⟨Nat.le_of_ble_eq_true rfl, Nat.le_of_ble_eq_true rfl⟩ rfl rfl (by omega) rfl rfl rfl (Nat.le_of_ble_eq_true rfl) ⟨Nat.zero_le _, Nat.zero_le _⟩ (fun r_62 g_62 hp_62 => ?_)
              obtain ⟨mi_62, ⟨h_62, rfl⟩ | ⟨h_62, rfl⟩, rfl⟩ := hp_62
              · refine z_if_eq (tgt := 85) dX8_ways_65 (by decide) (by decide) (fun h => absurd h (by decide)) (fun _ => ?_)
                refine z_iinc (j := 2) [(3, .int (iI (mn + 1))), (5, .int (iI u)), (4, .int (iI fs)), (0, .ref (q 0)), (1, .int (iI nn)), (2, .int (iI qq))] dX8_ways_68 rfl (by decide) rfl ?_
                refine z_iload (j := 2) dX8_ways_71 rfl ?_
                refine z_if_ge (tgt := 81) dX8_ways_73 (by decide) (by omega) (fun c_73 => ?_) (fun c_73 => ?_)
                · refine z_iload (j := 2) dX8_ways_81 rfl ?_
                  refine z_istore [(4, .int (iI fs)), (3, .int (iI (mn + 1))), (5, .int (iI u)), (0, .ref (q 0)), (1, .int (iI nn)), (2, .int (iI qq))] dX8_ways_83 (by decide) rfl ?_
                  refine z_iinc (j := 2) [(5, .int (iI (u + 1))), (4, .int (iI fs)), (3, .int (iI (mn + 1))), (0, .ref (q 0)), (1, .int (iI nn)), (2, .int (iI qq))] dX8_ways_85 rfl (by decide) rfl ?_
                  refine z_goto (tgt := 48) dX8_ways_88 (by decide) ?_
                  exact z_sub [(5, .int (iI (u + 1))), (4, .int (iI fs)), (3, .int (iI (mn + 1))), (0, .ref (q 0)), (1, .int (iI nn)), (2, .int (iI qq))] [0, 1, 2, 3, 4, 5] rfl (ih_48 (u + 1) (mn + 1) fs mi_62 (by omega) (by omega) (fun k a1 a2 a3 a4 a5 => (h_62.2 k a1 a2 a3 a4 a5).trans (hfr k a1 a2 a3 a4 a5)) (by
            have hk := h_62.1
            rw [hEy, hay, h2y] at hk
            rw [stepN hu.1, cntW]
            first
              | (rw [if_pos (show (fun r => okW (rvM mi ma) (alA (vM mi ma)) nn.toNat r nn.toNat (mi 2)) u.toNat = true from hk)]; omega)
              | (rw [if_neg (show ¬ (fun r => okW (rvM mi ma) (alA (vM mi ma)) nn.toNat r nn.toNat (mi 2)) u.toNat = true from fun q => absurd (hk.symm.trans q) (by decide))]; omega)) (by
            have hk := h_62.1
            rw [hEy, hay, h2y] at hk
            rw [stepN hu.1]
            first
              | (rcases hf with ⟨q1, q2⟩ | ⟨r0, q1, q2, q3, q4⟩
                 · exact absurd q1 (by omega)
                 · exact Or.inr ⟨r0, q1, by omega, q3, q4⟩)
              | (rcases hf with ⟨q1, q2⟩ | ⟨r0, q1, q2, q3, q4⟩
                 · exact Or.inr ⟨u.toNat, (castN hu.1).symm, by omega, hk, q2⟩
                 · exact absurd q1 (by omega))
              | (rcases hf with ⟨q1, q2⟩ | ⟨r0, q1, q2, q3, q4⟩
                 · refine Or.inl ⟨q1, fun r hr => ?_⟩
                   by_cases hq : r = u.toNat
                   · rw [hq]; exact hk
                   · exact q2 r (by omega)
                 · exact Or.inr ⟨r0, q1, by omega, q3, q4⟩)))
                · refine z_iload (j := 1) dX8_ways_76 rfl ?_
                  refine z_goto (tgt := 83) dX8_ways_78 (by decide) ?_
                  refine z_istore [(4, .int (iI u)), (3, .int (iI (mn + 1))), (5, .int (iI u)), (0, .ref (q 0)), (1, .int (iI nn)), (2, .int (iI qq))] dX8_ways_83 (by decide) rfl ?_
                  refine z_iinc (j := 2) [(5, .int (iI (u + 1))), (4, .int (iI u)), (3, .int (iI (mn + 1))), (0, .ref (q 0)), (1, .int (iI nn)), (2, .int (iI qq))] dX8_ways_85 rfl (by decide) rfl ?_
                  refine z_goto (tgt := 48) dX8_ways_88 (by decide) ?_
                  exact z_sub [(5, .int (iI (u + 1))), (4, .int (iI u)), (3, .int (iI (mn + 1))), (0, .ref (q 0)), (1, .int (iI nn)), (2, .int (iI qq))] [0, 1, 2, 3, 4, 5] rfl (ih_48 (u + 1) (mn + 1) u mi_62 (by omega) (by omega) (fun k a1 a2 a3 a4 a5 => (h_62.2 k a1 a2 a3 a4 a5).trans (hfr k a1 a2 a3 a4 a5)) (by
            have hk := h_62.1
            rw [hEy, hay, h2y] at hk
            rw [stepN hu.1, cntW]
            first
              | (rw [if_pos (show (fun r => okW (rvM mi ma) (alA (vM mi ma)) nn.toNat r nn.toNat (mi 2)) u.toNat = true from hk)]; omega)
              | (rw [if_neg (show ¬ (fun r => okW (rvM mi ma) (alA (vM mi ma)) nn.toNat r nn.toNat (mi 2)) u.toNat = true from fun q => absurd (hk.symm.trans q) (by decide))]; omega)) (by
            have hk := h_62.1
            rw [hEy, hay, h2y] at hk
            rw [stepN hu.1]
            first
              | (rcases hf with ⟨q1, q2⟩ | ⟨r0, q1, q2, q3, q4⟩
                 · exact absurd q1 (by omega)
                 · exact Or.inr ⟨r0, q1, by omega, q3, q4⟩)
              | (rcases hf with ⟨q1, q2⟩ | ⟨r0, q1, q2, q3, q4⟩
                 · exact Or.inr ⟨u.toNat, (castN hu.1).symm, by omega, hk, q2⟩
                 · exact absurd q1 (by omega))
              | (rcases hf with ⟨q1, q2⟩ | ⟨r0, q1, q2, q3, q4⟩
                 · refine Or.inl ⟨q1, fun r hr => ?_⟩
                   by_cases hq : r = u.toNat
                   · rw [hq]; exact hk
                   · exact q2 r (by omega)
                 · exact Or.inr ⟨r0, q1, by omega, q3, q4⟩)))
              · refine z_if_eq (tgt := 85) dX8_ways_65 (by decide) (by decide) (fun _ => ?_) (fun h => absurd h (by decide))
                refine z_iinc (j := 0) [(5, .int (iI (u + 1))), (4, .int (iI fs)), (3, .int (iI mn)), (0, .ref (q 0)), (1, .int (iI nn)), (2, .int (iI qq))] dX8_ways_85 rfl (by decide) rfl ?_
                refine z_goto (tgt := 48) dX8_ways_88 (by decide) ?_
                exact z_sub [(5, .int (iI (u + 1))), (4, .int (iI fs)), (3, .int (iI mn)), (0, .ref (q 0)), (1, .int (iI nn)), (2, .int (iI qq))] [0, 1, 2, 3, 4, 5] rfl (ih_48 (u + 1) mn fs mi_62 (by omega) (by omega) (fun k a1 a2 a3 a4 a5 => (h_62.2 k a1 a2 a3 a4 a5).trans (hfr k a1 a2 a3 a4 a5)) (by
            have hk := h_62.1
            rw [hEy, hay, h2y] at hk
            rw [stepN hu.1, cntW]
            first
              | (rw [if_pos (show (fun r => okW (rvM mi ma) (alA (vM mi ma)) nn.toNat r nn.toNat (mi 2)) u.toNat = true from hk)]; omega)
              | (rw [if_neg (show ¬ (fun r => okW (rvM mi ma) (alA (vM mi ma)) nn.toNat r nn.toNat (mi 2)) u.toNat = true from fun q => absurd (hk.symm.trans q) (by decide))]; omega)) (by
            have hk := h_62.1
            rw [hEy, hay, h2y] at hk
            rw [stepN hu.1]
            first
              | (rcases hf with ⟨q1, q2⟩ | ⟨r0, q1, q2, q3, q4⟩
                 · exact absurd q1 (by omega)
                 · exact Or.inr ⟨r0, q1, by omega, q3, q4⟩)
              | (rcases hf with ⟨q1, q2⟩ | ⟨r0, q1, q2, q3, q4⟩
                 · exact Or.inr ⟨u.toNat, (castN hu.1).symm, by omega, hk, q2⟩
                 · exact absurd q1 (by omega))
              | (rcases hf with ⟨q1, q2⟩ | ⟨r0, q1, q2, q3, q4⟩
                 · refine Or.inl ⟨q1, fun r hr => ?_⟩
                   by_cases hq : r = u.toNat
                   · rw [hq]; exact hk
                   · exact q2 r (by omega)
                 · exact Or.inr ⟨r0, q1, by omega, q3, q4⟩)))
        exact z_sub [(5, .int (iI 0)), (4, .int (iI (-9))), (3, .int (iI 0)), (0, .ref (q 0)), (1, .int (iI nn)), (2, .int (iI qq))] [0, 1, 2, 3, 4, 5] rfl (hl_48 _ 0 0 (-9) mi (Nat.lt_succ_self _) (⟨Int.le_refl 0, Int.natCast_nonneg _⟩) (fun _ _ _ _ _ _ => rfl) (rfl) (Or.inl ⟨rfl, fun r hr => absurd hr (by omega)⟩))
      · refine z_bipush dX8_ways_36 (by decide) ?_
        exact z_iret dX8_ways_38 ⟨_, _, (by unfold spWays; rw [if_neg (by omega), if_pos (by rw [hnA]; omega)]; exact ⟨rfl, rfl, hO⟩), rfl, rfl⟩
    · refine z_if_ne (tgt := 29) dX8_ways_23 (by decide) (by decide) (fun h => absurd h (by decide)) (fun _ => ?_)
      refine z_bipush dX8_ways_26 (by decide) ?_
      exact z_iret dX8_ways_28 ⟨_, _, (by unfold spWays; rw [if_pos (by omega)]; exact ⟨rfl, rfl, hO⟩), rfl, rfl⟩
  · refine z_if_eq (tgt := 26) dX8_ways_9 (by decide) (by decide) (fun _ => ?_) (fun h => absurd h (by decide))
    refine z_bipush dX8_ways_26 (by decide) ?_
    exact z_iret dX8_ways_28 ⟨_, _, (by unfold spWays; rw [if_pos (by omega)]; exact ⟨rfl, rfl, hO⟩), rfl, rfl⟩
