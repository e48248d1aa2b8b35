theorem cd_X8_paceBy : yX8_paceBy.cls ≠ "java/lang/invoke/MethodHandle" ∧ yX8_paceBy.cls ≠ "java/lang/invoke/VarHandle" ∧ (parseMethodDescriptor yX8_paceBy.desc).map (fun d => d.parameters.length) = some 2 := ⟨by decide +kernel, by decide +kernel, by decide +kernel⟩
theorem cd_X8_cellBy : yX8_cellBy.cls = RX8 ∧ yX8_cellBy.cls ≠ "java/lang/invoke/MethodHandle" ∧ yX8_cellBy.cls ≠ "java/lang/invoke/VarHandle" ∧ (parseMethodDescriptor yX8_cellBy.desc).map (fun d => d.parameters.length) = some 2 := ⟨rfl, by decide +kernel, by decide +kernel, by decide +kernel⟩
theorem m_X8_canAct_f19 : Cond.fieldLink RX8 19 "PoleBehindModel" "bridgeOver" "[I" ∈ wsX8_canAct := List.mem_of_getElem? (i := 3) rfl
theorem in_X8_canAct_X8 : ∀ w ∈ wsX80, w ∈ wsX8_canAct := fun _ h => List.mem_cons_of_mem _ (List.mem_append_right _ h)
theorem m_X8_canAct_f75 : Cond.fieldLink RX8 75 "PoleBehindModel" "cells" "I" ∈ wsX8_canAct := List.mem_of_getElem? (i := 1) rfl
theorem m_X8_canAct_f16 : Cond.fieldLink RX8 16 "PoleBehindModel" "deepIn" "[I" ∈ wsX8_canAct := List.mem_of_getElem? (i := 2) rfl
set_option maxHeartbeats 400000 in
set_option maxRecDepth 100000 in
theorem c_X8_canAct {l : Launch} {D : va_G} {cI cJ cZ cR : ClassId} {q : Nat → Nat} {mi : Nat → Int} {ma : Nat → Nat → Int} (hq : qOk 18 q) {act z t : Int} (hR : MRv mi ma) (ha : 0 ≤ act ∧ act ≤ 3) (hz : 0 ≤ z ∧ z ≤ 15) (ht : 0 ≤ t ∧ t ≤ 3) : Cti l D vwCl (tysC cI cJ cZ cR) 18 q yX8_canAct wsX8_canAct ({ frames := 1, cells := 0, slots := 0, locals := 22 } : Room) [.ref (q 0), .int (iI act), .int (iI z), .int (iI t)] (cM cI cJ cZ q mi ma) (fun (r : Int32) (g : Nat → va_E) => (((canB (rvM mi ma) act z t = true) ∧ r = iI 1) ∨ (¬ (canB (rvM mi ma) act z t = true) ∧ r = iI 0)) ∧ g = (cM cI cJ cZ q mi ma)) := by
  refine Cti.of (cc := cX8_canAct) (nL := 7) (own := RX8) (ret := (some .boolean)) (by decide) rfl rfl hq (Nat.le_of_ble_eq_true rfl) (fun p e s m args below meth c => ?_)
  obtain ⟨hN, hP, hK, hM, hD, hB⟩ := id hR
  have hRM := MRv_M hR
  have hnn : rN (rvM mi ma) = mi 1 := rfl
  have hdz := hD z.toNat
  have hpr := pacA_rng act t ht
  have hcd : z < mi 1 - 1 → rD (rvM mi ma) z.toNat = ma 3 z.toNat := fun h => nrm_in (by omega)
  have hce : celA (rN (rvM mi ma)) z (pacA act t) = (celA (mi 1) z (pacA act t)) := rfl
  have hcl : (celA (mi 1) z (pacA act t)) = min (z + (pacA act t)) (mi 1 - 1) := rfl
  have hj_33 : ∀ (okb : Int), ((okb = 1 ∧ (z < mi 1 - 1 ∧ (act = 1 ∨ act = 3 ∨ ma 3 z.toNat = 0))) ∨ (okb = 0 ∧ ¬ (z < mi 1 - 1 ∧ (act = 1 ∨ act = 3 ∨ ma 3 z.toNat = 0)))) → ZMi l D vwCl (tysC cI cJ cZ cR) 18 q ({ frames := 1, cells := 0, slots := 0, locals := 22 } : Room) cX8_canAct 7 RX8 wsX8_canAct (some .boolean) (fun (r : Int32) (g : Nat → va_E) => (((canB (rvM mi ma) act z t = true) ∧ r = iI 1) ∨ (¬ (canB (rvM mi ma) act z t = true) ∧ r = iI 0)) ∧ g = (cM cI cJ cZ q mi ma)) p e s m args below meth c (cM cI cJ cZ q mi ma) 33 [(4, .int (iI okb)), (0, .ref (q 0)), (1, .int (iI act)), (2, .int (iI z)), (3, .int (iI t))] [] := by
    intro okb hok
    refine z_iload_n (j := 2) dX8_canAct_33 rfl rfl ?_
    refine z_iload_n (j := 4) dX8_canAct_34 rfl rfl ?_
    refine z_callSi (As := [.int (iI act), .int (iI t)]) (rest := []) (c_X8_paceBy  hq (by omega) (by omega)) dX8_canAct_35 gX8_canAct_X8_paceBy rfl cd_X8_paceBy ⟨Nat.le_of_ble_eq_true rfl, Nat.le_of_ble_eq_true rfl⟩ rfl rfl rfl (Nat.le_of_ble_eq_true rfl) ⟨Nat.zero_le _, Nat.zero_le _⟩ (fun r_35 g_35 hp_35 => ?_)
    obtain ⟨⟨e_35, he_35, rfl⟩, rfl⟩ := hp_35
    have hpe : e_35 = pacA act t := he_35
    rw [← hpe] at hpr hce hcl
    refine z_istore [(5, .int (iI e_35)), (4, .int (iI okb)), (0, .ref (q 0)), (1, .int (iI act)), (2, .int (iI z)), (3, .int (iI t))] dX8_canAct_38 (by decide) rfl ?_
    refine z_iload_n (j := 4) dX8_canAct_40 rfl rfl ?_
    refine z_iconst dX8_canAct_41 ?_
    refine z_iadd dX8_canAct_42 ?_
    refine z_istore [(6, .int (iI (z + 1))), (5, .int (iI e_35)), (4, .int (iI okb)), (0, .ref (q 0)), (1, .int (iI act)), (2, .int (iI z)), (3, .int (iI t))] dX8_canAct_43 (by decide) rfl ?_
    have hl_45 : ∀ (N_45 : Nat) (okc : Int) (u : Int), (40 - u).toNat < N_45 → (z + 1 ≤ u ∧ u ≤ 17) → ((okc = 1 ∧ (z < mi 1 - 1 ∧ (act = 1 ∨ act = 3 ∨ ma 3 z.toNat = 0)) ∧ ∀ x : Nat, z < (x : Int) → (x : Int) < u → (e_35 ≤ 1 ∨ ma 4 x = 0)) ∨ (okc = 0 ∧ ¬ canB (rvM mi ma) act z t = true)) → ZMi l D vwCl (tysC cI cJ cZ cR) 18 q ({ frames := 1, cells := 0, slots := 0, locals := 22 } : Room) cX8_canAct 7 RX8 wsX8_canAct (some .boolean) (fun (r : Int32) (g : Nat → va_E) => (((canB (rvM mi ma) act z t = true) ∧ r = iI 1) ∨ (¬ (canB (rvM mi ma) act z t = true) ∧ r = iI 0)) ∧ g = (cM cI cJ cZ q mi ma)) p e s m args below meth c (cM cI cJ cZ q mi ma) 45 [(6, .int (iI u)), (5, .int (iI e_35)), (4, .int (iI okc)), (0, .ref (q 0)), (1, .int (iI act)), (2, .int (iI z)), (3, .int (iI t))] [] := by
      intro N_45
      induction N_45 with
      | zero => intro okc u hm; exact absurd hm (Nat.not_lt_zero _)
      | succ N_45 ih_45 =>
        intro okc u hm_45 hu hv
        have hbu := hB u.toNat
        refine z_iload (j := 2) dX8_canAct_45 rfl ?_
        refine z_if_eq (tgt := 91) dX8_canAct_47 (by decide) (by omega) (fun c_47 => ?_) (fun c_47 => ?_)
        · refine z_iload (j := 2) dX8_canAct_91 rfl ?_
          exact z_zret dX8_canAct_93 (hv.elim (fun h => Or.inr (by rw [h.1])) (fun h => Or.inl (by rw [h.1]))) ⟨by
      rcases hv with ⟨h1, h2, h3⟩ | ⟨h1, h2⟩
      · first
          | exact absurd h1 (by omega)
          | (refine Or.inl ⟨canB_iff.mpr ⟨h2.1, ?_, ?_⟩, by rw [h1]⟩
             · rw [hcd h2.1]; exact h2.2
             · rw [← hpe, hce]
               by_cases hp1 : e_35 ≤ 1
               · exact Or.inl hp1
               · refine Or.inr (fun x g1 g2 g3 => ?_)
                 rw [show rB (rvM mi ma) x = ma 4 x from nrm_in (by omega)]
                 exact (h3 x g2 (by omega)).resolve_left hp1)
      · exact Or.inr ⟨h2, by rw [h1]⟩, rfl⟩
        · refine z_iload (j := 0) dX8_canAct_50 rfl ?_
          refine z_aload_n (j := 3) dX8_canAct_52 rfl rfl ?_
          refine z_iload_n (j := 5) dX8_canAct_53 rfl rfl ?_
          refine z_iload (j := 1) dX8_canAct_54 rfl ?_
          refine z_callVi (i := 0) (ci := 8) (As := [.int (iI z), .int (iI e_35)]) (rest := [.int (iI u)]) (c_X8_cellBy  hq hR (by omega) (by omega)) dX8_canAct_56 gX8_canAct_X8_cellBy rfl cd_X8_cellBy ⟨Nat.le_of_ble_eq_true rfl, Nat.le_of_ble_eq_true rfl⟩ rfl rfl (by omega) rfl rfl rfl (Nat.le_of_ble_eq_true rfl) ⟨Nat.zero_le _, Nat.zero_le _⟩ (fun r_56 g_56 hp_56 => ?_)
          obtain ⟨⟨e_56, he_56, rfl⟩, rfl⟩ := hp_56
          refine z_icmp_gt (tgt := 91) dX8_canAct_59 (by decide) (by omega) (by omega) (fun c_59 => ?_) (fun c_59 => ?_)
          · refine z_iload (j := 2) dX8_canAct_91 rfl ?_
            exact z_zret dX8_canAct_93 (hv.elim (fun h => Or.inr (by rw [h.1])) (fun h => Or.inl (by rw [h.1]))) ⟨by
      rcases hv with ⟨h1, h2, h3⟩ | ⟨h1, h2⟩
      · first
          | exact absurd h1 (by omega)
          | (refine Or.inl ⟨canB_iff.mpr ⟨h2.1, ?_, ?_⟩, by rw [h1]⟩
             · rw [hcd h2.1]; exact h2.2
             · rw [← hpe, hce]
               by_cases hp1 : e_35 ≤ 1
               · exact Or.inl hp1
               · refine Or.inr (fun x g1 g2 g3 => ?_)
                 rw [show rB (rvM mi ma) x = ma 4 x from nrm_in (by omega)]
                 exact (h3 x g2 (by omega)).resolve_left hp1)
      · exact Or.inr ⟨h2, by rw [h1]⟩, rfl⟩
          · refine z_iload (j := 1) dX8_canAct_62 rfl ?_
            refine z_iconst dX8_canAct_64 ?_
            refine z_icmp_lt (tgt := 78) dX8_canAct_65 (by decide) (by omega) (by decide) (fun c_65 => ?_) (fun c_65 => ?_)
            · refine z_iconst dX8_canAct_78 ?_
              refine z_goto (tgt := 83) dX8_canAct_79 (by decide) ?_
              refine z_istore [(4, .int (iI 1)), (6, .int (iI u)), (5, .int (iI e_35)), (0, .ref (q 0)), (1, .int (iI act)), (2, .int (iI z)), (3, .int (iI t))] dX8_canAct_83 (by decide) rfl ?_
              refine z_iinc (j := 1) [(6, .int (iI (u + 1))), (4, .int (iI 1)), (5, .int (iI e_35)), (0, .ref (q 0)), (1, .int (iI act)), (2, .int (iI z)), (3, .int (iI t))] dX8_canAct_85 rfl (by decide) rfl ?_
              refine z_goto (tgt := 45) dX8_canAct_88 (by decide) ?_
              exact z_sub [(6, .int (iI (u + 1))), (5, .int (iI e_35)), (4, .int (iI 1)), (0, .ref (q 0)), (1, .int (iI act)), (2, .int (iI z)), (3, .int (iI t))] [0, 2, 1, 3, 4, 5, 6] rfl (ih_45 1 (u + 1) (by omega) (by omega) (by
            rcases hv with ⟨h1, h2, h3⟩ | ⟨h1, h2⟩
            · first
                | exact Or.inl ⟨rfl, h2, fun x g1 g2 => by
                    by_cases hx : (x : Int) = u
                    · first
                        | exact Or.inl (by omega)
                        | (have hxu : x = u.toNat := by omega
                           rw [hxu]
                           exact Or.inr (by omega))
                    · exact h3 x g1 (by omega)⟩
                | (refine Or.inr ⟨rfl, fun hcan => ?_⟩
                   have g := (canB_iff.mp hcan).2.2
                   rw [← hpe, hce] at g
                   rcases g with g | g
                   · omega
                   · have g2 := g u.toNat (by omega) (by omega) (by omega)
                     rw [show rB (rvM mi ma) u.toNat = ma 4 u.toNat from nrm_in (by omega)] at g2
                     omega)
            · exact absurd h1 (by omega)))
            · refine z_aload_n (j := 3) dX8_canAct_68 rfl rfl ?_
              refine z_getf (i := 0) (ci := 8) (k := 6) (v := .ref (q 4)) dX8_canAct_69 m_X8_canAct_f19 in_X8_canAct_X8 rfl (by decide) rfl (by omega) rfl rfl ?_
              refine z_iload (j := 0) dX8_canAct_72 rfl ?_
              refine z_iald (i := 4) (g := ma 4) 0 dX8_canAct_74 (by omega) rfl rfl (by omega) (by omega) (by omega) ?_
              refine z_if_ne (tgt := 82) dX8_canAct_75 (by decide) (by omega) (fun c_75 => ?_) (fun c_75 => ?_)
              · refine z_iconst dX8_canAct_82 ?_
                refine z_istore [(4, .int (iI 0)), (6, .int (iI u)), (5, .int (iI e_35)), (0, .ref (q 0)), (1, .int (iI act)), (2, .int (iI z)), (3, .int (iI t))] dX8_canAct_83 (by decide) rfl ?_
                refine z_iinc (j := 1) [(6, .int (iI (u + 1))), (4, .int (iI 0)), (5, .int (iI e_35)), (0, .ref (q 0)), (1, .int (iI act)), (2, .int (iI z)), (3, .int (iI t))] dX8_canAct_85 rfl (by decide) rfl ?_
                refine z_goto (tgt := 45) dX8_canAct_88 (by decide) ?_
                exact z_sub [(6, .int (iI (u + 1))), (5, .int (iI e_35)), (4, .int (iI 0)), (0, .ref (q 0)), (1, .int (iI act)), (2, .int (iI z)), (3, .int (iI t))] [0, 2, 1, 3, 4, 5, 6] rfl (ih_45 0 (u + 1) (by omega) (by omega) (by
            rcases hv with ⟨h1, h2, h3⟩ | ⟨h1, h2⟩
            · first
                | exact Or.inl ⟨rfl, h2, fun x g1 g2 => by
                    by_cases hx : (x : Int) = u
                    · first
                        | exact Or.inl (by omega)
                        | (have hxu : x = u.toNat := by omega
                           rw [hxu]
                           exact Or.inr (by omega))
                    · exact h3 x g1 (by omega)⟩
                | (refine Or.inr ⟨rfl, fun hcan => ?_⟩
                   have g := (canB_iff.mp hcan).2.2
                   rw [← hpe, hce] at g
                   rcases g with g | g
                   · omega
                   · have g2 := g u.toNat (by omega) (by omega) (by omega)
                     rw [show rB (rvM mi ma) u.toNat = ma 4 u.toNat from nrm_in (by omega)] at g2
                     omega)
            · exact absurd h1 (by omega)))
              · refine z_iconst dX8_canAct_78 ?_
                refine z_goto (tgt := 83) dX8_canAct_79 (by decide) ?_
                refine z_istore [(4, .int (iI 1)), (6, .int (iI u)), (5, .int (iI e_35)), (0, .ref (q 0)), (1, .int (iI act)), (2, .int (iI z)), (3, .int (iI t))] dX8_canAct_83 (by decide) rfl ?_
                refine z_iinc (j := 1) [(6, .int (iI (u + 1))), (4, .int (iI 1)), (5, .int (iI e_35)), (0, .ref (q 0)), (1, .int (iI act)), (2, .int (iI z)), (3, .int (iI t))] dX8_canAct_85 rfl (by decide) rfl ?_
                refine z_goto (tgt := 45) dX8_canAct_88 (by decide) ?_
                exact z_sub [(6, .int (iI (u + 1))), (5, .int (iI e_35)), (4, .int (iI 1)), (0, .ref (q 0)), (1, .int (iI act)), (2, .int (iI z)), (3, .int (iI t))] [0, 2, 1, 3, 4, 5, 6] rfl (ih_45 1 (u + 1) (by omega) (by omega) (by
            rcases hv with ⟨h1, h2, h3⟩ | ⟨h1, h2⟩
            · first
                | exact Or.inl ⟨rfl, h2, fun x g1 g2 => by
                    by_cases hx : (x : Int) = u
                    · first
                        | exact Or.inl (by omega)
                        | (have hxu : x = u.toNat := by omega
                           rw [hxu]
                           exact Or.inr (by omega))
                    · exact h3 x g1 (by omega)⟩
                | (refine Or.inr ⟨rfl, fun hcan => ?_⟩
                   have g := (canB_iff.mp hcan).2.2
                   rw [← hpe, hce] at g
                   rcases g with g | g
                   · omega
                   · have g2 := g u.toNat (by omega) (by omega) (by omega)
                     rw [show rB (rvM mi ma) u.toNat = ma 4 u.toNat from nrm_in (by omega)] at g2
                     omega)
            · exact absurd h1 (by omega)))
    exact z_sub [(6, .int (iI (z + 1))), (5, .int (iI e_35)), (4, .int (iI okb)), (0, .ref (q 0)), (1, .int (iI act)), (2, .int (iI z)), (3, .int (iI t))] [0, 1, 2, 3, 4, 5, 6] rfl (hl_45 _ okb (z + 1) (Nat.lt_succ_self _) (by omega) (by
          rcases hok with ⟨h1, h2⟩ | ⟨h1, h2⟩
          · exact Or.inl ⟨h1, h2, fun x g1 g2 => absurd g2 (by omega)⟩
          · refine Or.inr ⟨h1, fun hcan => h2 ?_⟩
            have g := canB_iff.mp hcan
            have g1 : z < mi 1 - 1 := g.1
            rw [hcd g1] at g
            exact ⟨g1, g.2.1⟩))
  refine z_iload_n (j := 2) dX8_canAct_0 rfl rfl ?_
  refine z_aload_n (j := 0) dX8_canAct_1 rfl rfl ?_
  refine z_getf (i := 0) (ci := 8) (k := 1) (v := .int (iI (mi 1))) dX8_canAct_2 m_X8_canAct_f75 in_X8_canAct_X8 rfl (by decide) rfl (by omega) rfl rfl ?_
  refine z_iconst dX8_canAct_5 ?_
  refine z_isub dX8_canAct_6 ?_
  refine z_icmp_ge (tgt := 30) dX8_canAct_7 (by decide) (by omega) (by omega) (fun c_7 => ?_) (fun c_7 => ?_)
  · refine z_iconst dX8_canAct_30 ?_
    refine z_istore [(4, .int (iI 0)), (0, .ref (q 0)), (1, .int (iI act)), (2, .int (iI z)), (3, .int (iI t))] dX8_canAct_31 (by decide) rfl ?_
    exact z_sub [(4, .int (iI 0)), (0, .ref (q 0)), (1, .int (iI act)), (2, .int (iI z)), (3, .int (iI t))] [0, 1, 2, 3, 4] rfl (hj_33 0 (by omega))
  · refine z_iload_n (j := 1) dX8_canAct_10 rfl rfl ?_
    refine z_iconst dX8_canAct_11 ?_
    refine z_irem dX8_canAct_12 (by omega) (by omega) ?_
    refine z_iconst dX8_canAct_13 ?_
    refine z_icmp_eq (tgt := 26) dX8_canAct_14 (by decide) (by omega) (by decide) (fun c_14 => ?_) (fun c_14 => ?_)
    · refine z_iconst dX8_canAct_26 ?_
      refine z_goto (tgt := 31) dX8_canAct_27 (by decide) ?_
      refine z_istore [(4, .int (iI 1)), (0, .ref (q 0)), (1, .int (iI act)), (2, .int (iI z)), (3, .int (iI t))] dX8_canAct_31 (by decide) rfl ?_
      exact z_sub [(4, .int (iI 1)), (0, .ref (q 0)), (1, .int (iI act)), (2, .int (iI z)), (3, .int (iI t))] [0, 1, 2, 3, 4] rfl (hj_33 1 (by omega))
    · refine z_aload_n (j := 0) dX8_canAct_17 rfl rfl ?_
      refine z_getf (i := 0) (ci := 8) (k := 5) (v := .ref (q 3)) dX8_canAct_18 m_X8_canAct_f16 in_X8_canAct_X8 rfl (by decide) rfl (by omega) rfl rfl ?_
      refine z_iload_n (j := 2) dX8_canAct_21 rfl rfl ?_
      refine z_iald (i := 3) (g := ma 3) 0 dX8_canAct_22 (by omega) rfl rfl (by omega) (by omega) (by omega) ?_
      refine z_if_ne (tgt := 30) dX8_canAct_23 (by decide) (by omega) (fun c_23 => ?_) (fun c_23 => ?_)
      · refine z_iconst dX8_canAct_30 ?_
        refine z_istore [(4, .int (iI 0)), (0, .ref (q 0)), (1, .int (iI act)), (2, .int (iI z)), (3, .int (iI t))] dX8_canAct_31 (by decide) rfl ?_
        exact z_sub [(4, .int (iI 0)), (0, .ref (q 0)), (1, .int (iI act)), (2, .int (iI z)), (3, .int (iI t))] [0, 1, 2, 3, 4] rfl (hj_33 0 (by omega))
      · refine z_iconst dX8_canAct_26 ?_
        refine z_goto (tgt := 31) dX8_canAct_27 (by decide) ?_
        refine z_istore [(4, .int (iI 1)), (0, .ref (q 0)), (1, .int (iI act)), (2, .int (iI z)), (3, .int (iI t))] dX8_canAct_31 (by decide) rfl ?_
        exact z_sub [(4, .int (iI 1)), (0, .ref (q 0)), (1, .int (iI act)), (2, .int (iI z)), (3, .int (iI t))] [0, 1, 2, 3, 4] rfl (hj_33 1 (by omega))
theorem m_X8_beginPlan_f147 : Cond.fieldLink RX8 147 "PoleBehindModel" "cellNow" "I" ∈ wsX8_beginPlan := List.mem_of_getElem? (i := 1) rfl
theorem in_X8_beginPlan_X8 : ∀ w ∈ wsX80, w ∈ wsX8_beginPlan := fun _ h => List.mem_cons_of_mem _ (List.mem_append_right _ h)
theorem m_X8_beginPlan_f127 : Cond.fieldLink RX8 127 "PoleBehindModel" "paceFirst" "I" ∈ wsX8_beginPlan := List.mem_of_getElem? (i := 2) rfl
theorem m_X8_beginPlan_f150 : Cond.fieldLink RX8 150 "PoleBehindModel" "paceNow" "I" ∈ wsX8_beginPlan := List.mem_of_getElem? (i := 3) rfl
theorem m_X8_beginPlan_f153 : Cond.fieldLink RX8 153 "PoleBehindModel" "firstWrong" "I" ∈ wsX8_beginPlan := List.mem_of_getElem? (i := 4) rfl
theorem m_X8_beginPlan_f156 : Cond.fieldLink RX8 156 "PoleBehindModel" "dryNow" "J" ∈ wsX8_beginPlan := List.mem_of_getElem? (i := 5) rfl
theorem m_X8_beginPlan_f160 : Cond.fieldLink RX8 160 "PoleBehindModel" "poled" "I" ∈ wsX8_beginPlan := List.mem_of_getElem? (i := 6) rfl
set_option maxHeartbeats 400000 in
set_option maxRecDepth 100000 in
theorem c_X8_beginPlan {l : Launch} {D : va_G} {cI cJ cZ cR : ClassId} {q : Nat → Nat} {mi : Nat → Int} {ma : Nat → Nat → Int} (hq : qOk 18 q)   : Ctv l D vwCl (tysC cI cJ cZ cR) 18 q yX8_beginPlan wsX8_beginPlan ({ frames := 0, cells := 0, slots := 0, locals := 0 } : Room) [.ref (q 0)] (cM cI cJ cZ q mi ma) (fun (g : Nat → va_E) => ∃ (mi' : Nat → Int), (mi' = va_up (va_up (va_up (va_up (va_up mi 14 0) 15 (mi 2)) 16 (-9)) 17 1) 18 0) ∧ g = (cM cI cJ cZ q mi' ma)) := by
  refine Ctv.of (cc := cX8_beginPlan) (nL := 1) (own := RX8) (ret := none) (by decide) rfl rfl hq (Nat.le_of_ble_eq_true rfl) (fun p e s m args below meth c => ?_)
  refine z_aload_n (j := 0) dX8_beginPlan_0 rfl rfl ?_
  refine z_iconst dX8_beginPlan_1 ?_
  refine z_putf (i := 0) (ci := 8) (k := 14) (cM cI cJ cZ q (va_up mi 14 0) ma) dX8_beginPlan_2 m_X8_beginPlan_f147 in_X8_beginPlan_X8 rfl (by decide) rfl (by omega) rfl tyX8_ok nmX8 rfl rfl rfl (Nat.le_of_ble_eq_true rfl) lm_14 ?_
  refine z_aload_n (j := 0) dX8_beginPlan_5 rfl rfl ?_
  refine z_aload_n (j := 0) dX8_beginPlan_6 rfl rfl ?_
  refine z_getf (i := 0) (ci := 8) (k := 2) (v := .int (iI (mi 2))) dX8_beginPlan_7 m_X8_beginPlan_f127 in_X8_beginPlan_X8 rfl (by decide) rfl (by omega) rfl rfl ?_
  refine z_putf (i := 0) (ci := 8) (k := 15) (cM cI cJ cZ q (va_up (va_up mi 14 0) 15 (mi 2)) ma) dX8_beginPlan_10 m_X8_beginPlan_f150 in_X8_beginPlan_X8 rfl (by decide) rfl (by omega) rfl tyX8_ok nmX8 rfl rfl rfl (Nat.le_of_ble_eq_true rfl) lm_15 ?_
  refine z_aload_n (j := 0) dX8_beginPlan_13 rfl rfl ?_
  refine z_bipush dX8_beginPlan_14 (by decide) ?_
  refine z_putf (i := 0) (ci := 8) (k := 16) (cM cI cJ cZ q (va_up (va_up (va_up mi 14 0) 15 (mi 2)) 16 (-9)) ma) dX8_beginPlan_16 m_X8_beginPlan_f153 in_X8_beginPlan_X8 rfl (by decide) rfl (by omega) rfl tyX8_ok nmX8 rfl rfl rfl (Nat.le_of_ble_eq_true rfl) lm_16 ?_
  refine z_aload_n (j := 0) dX8_beginPlan_19 rfl rfl ?_
  refine z_lconst (z := 1) dX8_beginPlan_20 (by decide) ?_
  refine z_putf (i := 0) (ci := 8) (k := 17) (cM cI cJ cZ q (va_up (va_up (va_up (va_up mi 14 0) 15 (mi 2)) 16 (-9)) 17 1) ma) dX8_beginPlan_21 m_X8_beginPlan_f156 in_X8_beginPlan_X8 rfl (by decide) rfl (by omega) rfl tyX8_ok nmX8 rfl rfl rfl (Nat.le_of_ble_eq_true rfl) lm_17 ?_
  refine z_aload_n (j := 0) dX8_beginPlan_24 rfl rfl ?_
  refine z_iconst dX8_beginPlan_25 ?_
  refine z_putf (i := 0) (ci := 8) (k := 18) (cM cI cJ cZ q (va_up (va_up (va_up (va_up (va_up mi 14 0) 15 (mi 2)) 16 (-9)) 17 1) 18 0) ma) dX8_beginPlan_26 m_X8_beginPlan_f160 in_X8_beginPlan_X8 rfl (by decide) rfl (by omega) rfl tyX8_ok nmX8 rfl rfl rfl (Nat.le_of_ble_eq_true rfl) lm_18 ?_
  exact z_vret dX8_beginPlan_29 ⟨_, (rfl), rfl⟩
theorem m_X8_goTurn_f156 : Cond.fieldLink RX8 156 "PoleBehindModel" "dryNow" "J" ∈ wsX8_goTurn := List.mem_of_getElem? (i := 1) rfl
theorem in_X8_goTurn_X8 : ∀ w ∈ wsX80, w ∈ wsX8_goTurn := fun _ h => List.mem_cons_of_mem _ (List.mem_append_right _ h)
theorem m_X8_goTurn_C65 : Cond.constantLong RX8 65 (lI (10)) ∈ wsX8_goTurn := List.mem_of_getElem? (i := 2) (by decide +kernel)
theorem m_X8_goTurn_f147 : Cond.fieldLink RX8 147 "PoleBehindModel" "cellNow" "I" ∈ wsX8_goTurn := List.mem_of_getElem? (i := 3) rfl
theorem cd_X8_staysBy : yX8_staysBy.cls = RX8 ∧ yX8_staysBy.cls ≠ "java/lang/invoke/MethodHandle" ∧ yX8_staysBy.cls ≠ "java/lang/invoke/VarHandle" ∧ (parseMethodDescriptor yX8_staysBy.desc).map (fun d => d.parameters.length) = some 2 := ⟨rfl, by decide +kernel, by decide +kernel, by decide +kernel⟩
theorem m_X8_goTurn_f160 : Cond.fieldLink RX8 160 "PoleBehindModel" "poled" "I" ∈ wsX8_goTurn := List.mem_of_getElem? (i := 4) rfl
theorem m_X8_goTurn_f150 : Cond.fieldLink RX8 150 "PoleBehindModel" "paceNow" "I" ∈ wsX8_goTurn := List.mem_of_getElem? (i := 5) rfl
set_option maxHeartbeats 400000 in
set_option maxRecDepth 100000 in
theorem c_X8_goTurn {l : Launch} {D : va_G} {cI cJ cZ cR : ClassId} {q : Nat → Nat} {mi : Nat → Int} {ma : Nat → Nat → Int} (hq : qOk 18 q) {act : Int} {po : Nat} (hR : MRv mi ma) (ha : 0 ≤ act ∧ act ≤ 3) (h14 : 0 ≤ mi 14 ∧ mi 14 < mi 1) (h15 : 0 ≤ mi 15 ∧ mi 15 ≤ 3) (hpo : mi 18 = ((po : Nat) : Int)) : Ctv l D vwCl (tysC cI cJ cZ cR) 18 q yX8_goTurn wsX8_goTurn ({ frames := 2, cells := 0, slots := 0, locals := 44 } : Room) [.ref (q 0), .int (iI act)] (cM cI cJ cZ q mi ma) (fun (g : Nat → va_E) => ∃ (mi' : Nat → Int), (mi' 17 = mi 17 * dten act (hold (rvM mi ma) (mi 14).toNat) ∧ mi' 18 = ((if act = 0 ∨ act = 2 then po ||| 2 ^ (mi 14).toNat else po : Nat) : Int) ∧ mi' 15 = pacA act (mi 15) ∧ mi' 14 = celA (mi 1) (mi 14) (pacA act (mi 15)) ∧ ∀ k, k ≠ 14 → k ≠ 15 → k ≠ 17 → k ≠ 18 → mi' k = mi k) ∧ g = (cM cI cJ cZ q mi' ma)) := by
  refine Ctv.of (cc := cX8_goTurn) (nL := 2) (own := RX8) (ret := none) (by decide) rfl rfl hq (Nat.le_of_ble_eq_true rfl) (fun p e s m args below meth c => ?_)
  obtain ⟨hN, hP, hK, hM, hD, hB⟩ := id hR
  have hRM := MRv_M hR
  have hnn : rN (rvM mi ma) = mi 1 := rfl
  have hpr := pacA_rng act (mi 15) h15
  refine z_aload_n (j := 0) dX8_goTurn_0 rfl rfl ?_
  refine z_dup dX8_goTurn_1 rfl ?_
  refine z_getf (i := 0) (ci := 8) (k := 17) (v := .long (lI (mi 17))) dX8_goTurn_2 m_X8_goTurn_f156 in_X8_goTurn_X8 rfl (by decide) rfl (by omega) rfl rfl ?_
  refine z_ldc2 dX8_goTurn_5 m_X8_goTurn_C65 ?_
  refine z_aload_n (j := 0) dX8_goTurn_8 rfl rfl ?_
  refine z_iload_n (j := 1) dX8_goTurn_9 rfl rfl ?_
  refine z_aload_n (j := 0) dX8_goTurn_10 rfl rfl ?_
  refine z_getf (i := 0) (ci := 8) (k := 14) (v := .int (iI (mi 14))) dX8_goTurn_11 m_X8_goTurn_f147 in_X8_goTurn_X8 rfl (by decide) rfl (by omega) rfl rfl ?_
  refine z_callVi (i := 0) (ci := 8) (As := [.int (iI act), .int (iI (mi 14))]) (rest := [.long (lI 10), .long (lI (mi 17)), .ref (q 0)]) (c_X8_staysBy  hq hR (by omega) (by omega)) dX8_goTurn_14 gX8_goTurn_X8_staysBy rfl cd_X8_staysBy ⟨Nat.le_of_ble_eq_true rfl, Nat.le_of_ble_eq_true rfl⟩ rfl rfl (by omega) rfl rfl rfl (Nat.le_of_ble_eq_true rfl) ⟨Nat.zero_le _, Nat.zero_le _⟩ (fun r_14 g_14 hp_14 => ?_)
  obtain ⟨⟨e_14, he_14, rfl⟩, rfl⟩ := hp_14
  have hdr := dten_rng (act := act) (hold_rng (R := rvM mi ma) (hRM.2 (mi 14).toNat))
  refine z_i2l dX8_goTurn_17 (by omega) ?_
  refine z_lsub dX8_goTurn_18 ?_
  refine z_lmul dX8_goTurn_19 ?_
  refine z_putf (i := 0) (ci := 8) (k := 17) (cM cI cJ cZ q (va_up mi 17 ((mi 17) * (10 - e_14))) ma) dX8_goTurn_20 m_X8_goTurn_f156 in_X8_goTurn_X8 rfl (by decide) rfl (by omega) rfl tyX8_ok nmX8 rfl rfl rfl (Nat.le_of_ble_eq_true rfl) lm_17 ?_
  refine z_aload_n (j := 0) dX8_goTurn_23 rfl rfl ?_
  refine z_dup dX8_goTurn_24 rfl ?_
  refine z_getf (i := 0) (ci := 8) (k := 18) (v := .int (iI (mi 18))) dX8_goTurn_25 m_X8_goTurn_f160 in_X8_goTurn_X8 rfl (by decide) rfl (by omega) rfl rfl ?_
  refine z_iload_n (j := 1) dX8_goTurn_28 rfl rfl ?_
  refine z_iconst dX8_goTurn_29 ?_
  refine z_irem dX8_goTurn_30 (by omega) (by omega) ?_
  refine z_if_ne (tgt := 43) dX8_goTurn_31 (by decide) (by omega) (fun c_31 => ?_) (fun c_31 => ?_)
  · refine z_iconst dX8_goTurn_43 ?_
    refine z_ior (iI ((po : Nat) : Int)) dX8_goTurn_44 (by rw [hpo]; exact bi_or0 po) ?_
    refine z_putf (i := 0) (ci := 8) (k := 18) (cM cI cJ cZ q (va_up (va_up mi 17 ((mi 17) * (10 - e_14))) 18 ((po : Nat) : Int)) ma) dX8_goTurn_45 m_X8_goTurn_f160 in_X8_goTurn_X8 rfl (by decide) rfl (by omega) rfl tyX8_ok nmX8 rfl rfl rfl (Nat.le_of_ble_eq_true rfl) lm_18 ?_
    refine z_aload_n (j := 0) dX8_goTurn_48 rfl rfl ?_
    refine z_iload_n (j := 1) dX8_goTurn_49 rfl rfl ?_
    refine z_aload_n (j := 0) dX8_goTurn_50 rfl rfl ?_
    refine z_getf (i := 0) (ci := 8) (k := 15) (v := .int (iI (mi 15))) dX8_goTurn_51 m_X8_goTurn_f150 in_X8_goTurn_X8 rfl (by decide) rfl (by omega) rfl rfl ?_
    refine z_callSi (As := [.int (iI act), .int (iI (mi 15))]) (rest := [.ref (q 0)]) (c_X8_paceBy  hq (by omega) (by omega)) dX8_goTurn_54 gX8_goTurn_X8_paceBy rfl cd_X8_paceBy ⟨Nat.le_of_ble_eq_true rfl, Nat.le_of_ble_eq_true rfl⟩ rfl rfl rfl (Nat.le_of_ble_eq_true rfl) ⟨Nat.zero_le _, Nat.zero_le _⟩ (fun r_54 g_54 hp_54 => ?_)
    obtain ⟨⟨e_54, he_54, rfl⟩, rfl⟩ := hp_54
    refine z_putf (i := 0) (ci := 8) (k := 15) (cM cI cJ cZ q (va_up (va_up (va_up mi 17 ((mi 17) * (10 - e_14))) 18 ((po : Nat) : Int)) 15 e_54) ma) dX8_goTurn_57 m_X8_goTurn_f150 in_X8_goTurn_X8 rfl (by decide) rfl (by omega) rfl tyX8_ok nmX8 rfl rfl rfl (Nat.le_of_ble_eq_true rfl) lm_15 ?_
    refine z_aload_n (j := 0) dX8_goTurn_60 rfl rfl ?_
    refine z_aload_n (j := 0) dX8_goTurn_61 rfl rfl ?_
    refine z_aload_n (j := 0) dX8_goTurn_62 rfl rfl ?_
    refine z_getf (i := 0) (ci := 8) (k := 14) (v := .int (iI (mi 14))) dX8_goTurn_63 m_X8_goTurn_f147 in_X8_goTurn_X8 rfl (by decide) rfl (by omega) rfl rfl ?_
    refine z_aload_n (j := 0) dX8_goTurn_66 rfl rfl ?_
    refine z_getf (i := 0) (ci := 8) (k := 15) (v := .int (iI e_54)) dX8_goTurn_67 m_X8_goTurn_f150 in_X8_goTurn_X8 rfl (by decide) rfl (by omega) rfl rfl ?_
    refine z_callVi (i := 0) (ci := 8) (As := [.int (iI (mi 14)), .int (iI e_54)]) (rest := [.ref (q 0)]) (c_X8_cellBy  hq (MRv_eq (by rw [up_n (by decide), up_n (by decide), up_n (by decide)]) (by rw [up_n (by decide), up_n (by decide), up_n (by decide)]) rfl rfl rfl rfl hR) (by omega) (by rw [he_54]; exact hpr)) dX8_goTurn_70 gX8_goTurn_X8_cellBy rfl cd_X8_cellBy ⟨Nat.le_of_ble_eq_true rfl, Nat.le_of_ble_eq_true rfl⟩ rfl rfl (by omega) rfl rfl rfl (Nat.le_of_ble_eq_true rfl) ⟨Nat.zero_le _, Nat.zero_le _⟩ (fun r_70 g_70 hp_70 => ?_)
    obtain ⟨⟨e_70, he_70, rfl⟩, rfl⟩ := hp_70
    refine z_putf (i := 0) (ci := 8) (k := 14) (cM cI cJ cZ q (va_up (va_up (va_up (va_up mi 17 ((mi 17) * (10 - e_14))) 18 ((po : Nat) : Int)) 15 e_54) 14 e_70) ma) dX8_goTurn_73 m_X8_goTurn_f147 in_X8_goTurn_X8 rfl (by decide) rfl (by omega) rfl tyX8_ok nmX8 rfl rfl rfl (Nat.le_of_ble_eq_true rfl) lm_14 ?_
    exact z_vret dX8_goTurn_76 ⟨_, (by
      have hd9 : 10 - e_14 = dten act (hold (rvM mi ma) (mi 14).toNat) := by rw [he_14]; omega
      refine ⟨?_, ?_, ?_, ?_, fun k h1 h2 h3 h4 => by rw [up_n h1, up_n h2, up_n h4, up_n h3]⟩
      · rw [up_n (by decide), up_n (by decide), up_n (by decide), up_s, hd9]
      · rw [up_n (by decide), up_n (by decide), up_s]
        first | rw [if_pos (by omega)] | rw [if_neg (by omega)]
      · rw [up_n (by decide), up_s, he_54]
      · rw [up_s, he_70, he_54]
        try rw [up_n (by decide), up_n (by decide), up_n (by decide)]), rfl⟩
  · refine z_iconst dX8_goTurn_34 ?_
    refine z_aload_n (j := 0) dX8_goTurn_35 rfl rfl ?_
    refine z_getf (i := 0) (ci := 8) (k := 14) (v := .int (iI (mi 14))) dX8_goTurn_36 m_X8_goTurn_f147 in_X8_goTurn_X8 rfl (by decide) rfl (by omega) rfl rfl ?_
    refine z_ishl (iI ((2 ^ (mi 14).toNat : Nat) : Int)) dX8_goTurn_39 (bi_shl (by omega)) ?_
    refine z_goto (tgt := 44) dX8_goTurn_40 (by decide) ?_
    refine z_ior (iI ((po ||| 2 ^ (mi 14).toNat : Nat) : Int)) dX8_goTurn_44 (by rw [hpo]; exact bi_or _ _) ?_
    refine z_putf (i := 0) (ci := 8) (k := 18) (cM cI cJ cZ q (va_up (va_up mi 17 ((mi 17) * (10 - e_14))) 18 ((po ||| 2 ^ (mi 14).toNat : Nat) : Int)) ma) dX8_goTurn_45 m_X8_goTurn_f160 in_X8_goTurn_X8 rfl (by decide) rfl (by omega) rfl tyX8_ok nmX8 rfl rfl rfl (Nat.le_of_ble_eq_true rfl) lm_18 ?_
    refine z_aload_n (j := 0) dX8_goTurn_48 rfl rfl ?_
    refine z_iload_n (j := 1) dX8_goTurn_49 rfl rfl ?_
    refine z_aload_n (j := 0) dX8_goTurn_50 rfl rfl ?_
    refine z_getf (i := 0) (ci := 8) (k := 15) (v := .int (iI (mi 15))) dX8_goTurn_51 m_X8_goTurn_f150 in_X8_goTurn_X8 rfl (by decide) rfl (by omega) rfl rfl ?_
    refine z_callSi (As := [.int (iI act), .int (iI (mi 15))]) (rest := [.ref (q 0)]) (c_X8_paceBy  hq (by omega) (by omega)) dX8_goTurn_54 gX8_goTurn_X8_paceBy rfl cd_X8_paceBy ⟨Nat.le_of_ble_eq_true rfl, Nat.le_of_ble_eq_true rfl⟩ rfl rfl rfl (Nat.le_of_ble_eq_true rfl) ⟨Nat.zero_le _, Nat.zero_le _⟩ (fun r_54 g_54 hp_54 => ?_)
    obtain ⟨⟨e_54, he_54, rfl⟩, rfl⟩ := hp_54
    refine z_putf (i := 0) (ci := 8) (k := 15) (cM cI cJ cZ q (va_up (va_up (va_up mi 17 ((mi 17) * (10 - e_14))) 18 ((po ||| 2 ^ (mi 14).toNat : Nat) : Int)) 15 e_54) ma) dX8_goTurn_57 m_X8_goTurn_f150 in_X8_goTurn_X8 rfl (by decide) rfl (by omega) rfl tyX8_ok nmX8 rfl rfl rfl (Nat.le_of_ble_eq_true rfl) lm_15 ?_
    refine z_aload_n (j := 0) dX8_goTurn_60 rfl rfl ?_
    refine z_aload_n (j := 0) dX8_goTurn_61 rfl rfl ?_
    refine z_aload_n (j := 0) dX8_goTurn_62 rfl rfl ?_
    refine z_getf (i := 0) (ci := 8) (k := 14) (v := .int (iI (mi 14))) dX8_goTurn_63 m_X8_goTurn_f147 in_X8_goTurn_X8 rfl (by decide) rfl (by omega) rfl rfl ?_
    refine z_aload_n (j := 0) dX8_goTurn_66 rfl rfl ?_
    refine z_getf (i := 0) (ci := 8) (k := 15) (v := .int (iI e_54)) dX8_goTurn_67 m_X8_goTurn_f150 in_X8_goTurn_X8 rfl (by decide) rfl (by omega) rfl rfl ?_
    refine z_callVi (i := 0) (ci := 8) (As := [.int (iI (mi 14)), .int (iI e_54)]) (rest := [.ref (q 0)]) (c_X8_cellBy  hq (MRv_eq (by rw [up_n (by decide), up_n (by decide), up_n (by decide)]) (by rw [up_n (by decide), up_n (by decide), up_n (by decide)]) rfl rfl rfl rfl hR) (by omega) (by rw [he_54]; exact hpr)) dX8_goTurn_70 gX8_goTurn_X8_cellBy rfl cd_X8_cellBy ⟨Nat.le_of_ble_eq_true rfl, Nat.le_of_ble_eq_true rfl⟩ rfl rfl (by omega) rfl rfl rfl (Nat.le_of_ble_eq_true rfl) ⟨Nat.zero_le _, Nat.zero_le _⟩ (fun r_70 g_70 hp_70 => ?_)
    obtain ⟨⟨e_70, he_70, rfl⟩, rfl⟩ := hp_70
    refine z_putf (i := 0) (ci := 8) (k := 14) (cM cI cJ cZ q (va_up (va_up (va_up (va_up mi 17 ((mi 17) * (10 - e_14))) 18 ((po ||| 2 ^ (mi 14).toNat : Nat) : Int)) 15 e_54) 14 e_70) ma) dX8_goTurn_73 m_X8_goTurn_f147 in_X8_goTurn_X8 rfl (by decide) rfl (by omega) rfl tyX8_ok nmX8 rfl rfl rfl (Nat.le_of_ble_eq_true rfl) lm_14 ?_
    exact z_vret dX8_goTurn_76 ⟨_, (by
      have hd9 : 10 - e_14 = dten act (hold (rvM mi ma) (mi 14).toNat) := by rw [he_14]; omega
      refine ⟨?_, ?_, ?_, ?_, fun k h1 h2 h3 h4 => by rw [up_n h1, up_n h2, up_n h4, up_n h3]⟩
      · rw [up_n (by decide), up_n (by decide), up_n (by decide), up_s, hd9]
      · rw [up_n (by decide), up_n (by decide), up_s]
        first | rw [if_pos (by omega)] | rw [if_neg (by omega)]
      · rw [up_n (by decide), up_s, he_54]
      · rw [up_s, he_70, he_54]
        try rw [up_n (by decide), up_n (by decide), up_n (by decide)]), rfl⟩
theorem cd_X8_beginPlan : yX8_beginPlan.cls = RX8 ∧ yX8_beginPlan.cls ≠ "java/lang/invoke/MethodHandle" ∧ yX8_beginPlan.cls ≠ "java/lang/invoke/VarHandle" ∧ (parseMethodDescriptor yX8_beginPlan.desc).map (fun d => d.parameters.length) = some 0 := ⟨rfl, by decide +kernel, by decide +kernel, by decide +kernel⟩
theorem m_X8_goPlan_f153 : Cond.fieldLink RX8 153 "PoleBehindModel" "firstWrong" "I" ∈ wsX8_goPlan := List.mem_of_getElem? (i := 1) rfl
theorem in_X8_goPlan_X8 : ∀ w ∈ wsX80, w ∈ wsX8_goPlan := fun _ h => List.mem_cons_of_mem _ (List.mem_append_right _ h)
theorem m_X8_goPlan_f57 : Cond.fieldLink RX8 57 "PoleBehindModel" "sheet" "[I" ∈ wsX8_goPlan := List.mem_of_getElem? (i := 2) rfl
theorem m_X8_goPlan_f147 : Cond.fieldLink RX8 147 "PoleBehindModel" "cellNow" "I" ∈ wsX8_goPlan := List.mem_of_getElem? (i := 3) rfl
theorem m_X8_goPlan_f150 : Cond.fieldLink RX8 150 "PoleBehindModel" "paceNow" "I" ∈ wsX8_goPlan := List.mem_of_getElem? (i := 4) rfl
theorem cd_X8_canAct : yX8_canAct.cls = RX8 ∧ yX8_canAct.cls ≠ "java/lang/invoke/MethodHandle" ∧ yX8_canAct.cls ≠ "java/lang/invoke/VarHandle" ∧ (parseMethodDescriptor yX8_canAct.desc).map (fun d => d.parameters.length) = some 3 := ⟨rfl, by decide +kernel, by decide +kernel, by decide +kernel⟩
theorem cd_X8_goTurn : yX8_goTurn.cls = RX8 ∧ yX8_goTurn.cls ≠ "java/lang/invoke/MethodHandle" ∧ yX8_goTurn.cls ≠ "java/lang/invoke/VarHandle" ∧ (parseMethodDescriptor yX8_goTurn.desc).map (fun d => d.parameters.length) = some 1 := ⟨rfl, by decide +kernel, by decide +kernel, by decide +kernel⟩
set_option maxHeartbeats 400000 in
set_option maxRecDepth 100000 in
theorem c_X8_goPlan {l : Launch} {D : va_G} {cI cJ cZ cR : ClassId} {q : Nat → Nat} {mi : Nat → Int} {ma : Nat → Nat → Int} (hq : qOk 18 q) {at0 nn : Int} (hR : MRv mi ma) (h1 : 1 ≤ mi 1) (hat : 0 ≤ at0 ∧ 0 ≤ nn ∧ nn ≤ 18 ∧ at0 + nn ≤ 240) (hac : ∀ k : Nat, (k : Int) < nn → 0 ≤ ma 16 (at0.toNat + k) ∧ ma 16 (at0.toNat + k) ≤ 3) : Ctv l D vwCl (tysC cI cJ cZ cR) 18 q yX8_goPlan wsX8_goPlan ({ frames := 3, cells := 0, slots := 0, locals := 65 } : Room) [.ref (q 0), .int (iI at0), .int (iI nn)] (cM cI cJ cZ q mi ma) (fun (g : Nat → va_E) => ∃ (mi' : Nat → Int), (mi' 16 = (runS (rvM mi ma) (fun k => ma 16 (at0.toNat + k)) (mi 2) nn.toNat).2 ∧ ((runS (rvM mi ma) (fun k => ma 16 (at0.toNat + k)) (mi 2) nn.toNat).2 = -9 → mi' 14 = (runS (rvM mi ma) (fun k => ma 16 (at0.toNat + k)) (mi 2) nn.toNat).1 / 4 ∧ mi' 15 = (runS (rvM mi ma) (fun k => ma 16 (at0.toNat + k)) (mi 2) nn.toNat).1 % 4 ∧ mi' 17 = prodT (fun t => dten ((fun k => ma 16 (at0.toNat + k)) t) (hold (rvM mi ma) (cellS (rvM mi ma) (fun k => ma 16 (at0.toNat + k)) (mi 2) t).toNat)) nn.toNat ∧ mi' 18 = ((polM (fun k => ma 16 (at0.toNat + k)) (cellS (rvM mi ma) (fun k => ma 16 (at0.toNat + k)) (mi 2)) nn.toNat : Nat) : Int)) ∧ ∀ k, k ≠ 14 → k ≠ 15 → k ≠ 16 → k ≠ 17 → k ≠ 18 → mi' k = mi k) ∧ g = (cM cI cJ cZ q mi' ma)) := by
  refine Ctv.of (cc := cX8_goPlan) (nL := 4) (own := RX8) (ret := none) (by decide) rfl rfl hq (Nat.le_of_ble_eq_true rfl) (fun p e s m args below meth c => ?_)
  obtain ⟨hN, hP, hK, hM, hD, hB⟩ := id hR
  have hRM := MRv_M hR
  have hnn : rN (rvM mi ma) = mi 1 := rfl
  refine z_aload_n (j := 0) dX8_goPlan_0 rfl rfl ?_
  refine z_callVv (i := 0) (ci := 8) (As := []) (rest := []) (c_X8_beginPlan  hq ) dX8_goPlan_1 gX8_goPlan_X8_beginPlan rfl cd_X8_beginPlan ⟨Nat.le_of_ble_eq_true rfl, Nat.le_of_ble_eq_true rfl⟩ rfl rfl (by omega) rfl rfl rfl (Nat.le_of_ble_eq_true rfl) ⟨Nat.zero_le _, Nat.zero_le _⟩ (fun g_1 hp_1 => ?_)
  obtain ⟨mi_1, he_1, rfl⟩ := hp_1
  refine z_iconst dX8_goPlan_4 ?_
  refine z_istore_n [(3, .int (iI 0)), (0, .ref (q 0)), (1, .int (iI at0)), (2, .int (iI nn))] dX8_goPlan_5 rfl (by decide) rfl ?_
  have hl_6 : ∀ (N_6 : Nat) (u : Int) (yi : Nat → Int), (20 - u).toNat < N_6 → (0 ≤ u ∧ u ≤ nn) → (yi 16 = (runS (rvM mi ma) (fun k => ma 16 (at0.toNat + k)) (mi 2) u.toNat).2) → (yi 14 = (runS (rvM mi ma) (fun k => ma 16 (at0.toNat + k)) (mi 2) u.toNat).1 / 4 ∧ yi 15 = (runS (rvM mi ma) (fun k => ma 16 (at0.toNat + k)) (mi 2) u.toNat).1 % 4) → ((runS (rvM mi ma) (fun k => ma 16 (at0.toNat + k)) (mi 2) u.toNat).2 = -9 → yi 17 = prodT (fun t => dten ((fun k => ma 16 (at0.toNat + k)) t) (hold (rvM mi ma) (cellS (rvM mi ma) (fun k => ma 16 (at0.toNat + k)) (mi 2) t).toNat)) u.toNat ∧ yi 18 = ((polM (fun k => ma 16 (at0.toNat + k)) (cellS (rvM mi ma) (fun k => ma 16 (at0.toNat + k)) (mi 2)) u.toNat : Nat) : Int)) → (∀ k, k ≠ 14 → k ≠ 15 → k ≠ 16 → k ≠ 17 → k ≠ 18 → yi k = mi k) → ZMv l D vwCl (tysC cI cJ cZ cR) 18 q ({ frames := 3, cells := 0, slots := 0, locals := 65 } : Room) cX8_goPlan 4 RX8 wsX8_goPlan none (fun (g : Nat → va_E) => ∃ (mi' : Nat → Int), (mi' 16 = (runS (rvM mi ma) (fun k => ma 16 (at0.toNat + k)) (mi 2) nn.toNat).2 ∧ ((runS (rvM mi ma) (fun k => ma 16 (at0.toNat + k)) (mi 2) nn.toNat).2 = -9 → mi' 14 = (runS (rvM mi ma) (fun k => ma 16 (at0.toNat + k)) (mi 2) nn.toNat).1 / 4 ∧ mi' 15 = (runS (rvM mi ma) (fun k => ma 16 (at0.toNat + k)) (mi 2) nn.toNat).1 % 4 ∧ mi' 17 = prodT (fun t => dten ((fun k => ma 16 (at0.toNat + k)) t) (hold (rvM mi ma) (cellS (rvM mi ma) (fun k => ma 16 (at0.toNat + k)) (mi 2) t).toNat)) nn.toNat ∧ mi' 18 = ((polM (fun k => ma 16 (at0.toNat + k)) (cellS (rvM mi ma) (fun k => ma 16 (at0.toNat + k)) (mi 2)) nn.toNat : Nat) : Int)) ∧ ∀ k, k ≠ 14 → k ≠ 15 → k ≠ 16 → k ≠ 17 → k ≠ 18 → mi' k = mi k) ∧ g = (cM cI cJ cZ q mi' ma)) p e s m args below meth c (cM cI cJ cZ q yi ma) 6 [(3, .int (iI u)), (0, .ref (q 0)), (1, .int (iI at0)), (2, .int (iI nn))] [] := by
    intro N_6
    induction N_6 with
    | zero => intro u yi hm; exact absurd hm (Nat.not_lt_zero _)
    | succ N_6 ih_6 =>
      intro u yi hm_6 hu h16 h14 h17 hfr
      have hlt := runS_lt (R := (rvM mi ma)) (g := (fun k => ma 16 (at0.toNat + k))) (p0 := mi 2) hN.2 (by rw [hnn]; omega) u.toNat
      rw [hnn] at hlt
      have hwr := runS_wr (R := (rvM mi ma)) (g := (fun k => ma 16 (at0.toNat + k))) (p0 := mi 2) u.toNat
      have hRy := MRv_eq (hfr 1 (by decide) (by decide) (by decide) (by decide) (by decide)) (hfr 2 (by decide) (by decide) (by decide) (by decide) (by decide)) rfl rfl rfl rfl hR
      have hRe : rvM yi ma = (rvM mi ma) := rvM_eq (hfr 1 (by decide) (by decide) (by decide) (by decide) (by decide)) rfl rfl rfl rfl
      have h1y := hfr 1 (by decide) (by decide) (by decide) (by decide) (by decide)
      have hau := hac u.toNat
      have hix : (at0 + u).toNat = at0.toNat + u.toNat := by omega
      rw [← hix] at hau
      refine z_iload_n (j := 0) dX8_goPlan_6 rfl rfl ?_
      refine z_iload_n (j := 3) dX8_goPlan_7 rfl rfl ?_
      refine z_icmp_ge (tgt := 67) dX8_goPlan_8 (by decide) (by omega) (by omega) (fun c_8 => ?_) (fun c_8 => ?_)
      · exact z_vret dX8_goPlan_67 ⟨_, (by
      have hfin : runS (rvM mi ma) (fun k => ma 16 (at0.toNat + k)) (mi 2) nn.toNat = runS (rvM mi ma) (fun k => ma 16 (at0.toNat + k)) (mi 2) u.toNat := by
        first
          | rw [show nn.toNat = u.toNat by omega]
          | (have hs := runS_stuck (R := (rvM mi ma)) (g := (fun k => ma 16 (at0.toNat + k))) (p0 := mi 2) (t := u.toNat) (by omega) (nn.toNat - u.toNat)
             rw [show u.toNat + (nn.toNat - u.toNat) = nn.toNat by omega] at hs
             exact hs)
      rw [hfin]
      refine ⟨h16, fun q => ?_, hfr⟩
      have hun : nn.toNat = u.toNat := by omega
      rw [hun]
      exact ⟨h14.1, h14.2, h17 q⟩), rfl⟩
      · refine z_aload_n (j := 1) dX8_goPlan_11 rfl rfl ?_
        refine z_getf (i := 0) (ci := 8) (k := 16) (v := .int (iI (yi 16))) dX8_goPlan_12 m_X8_goPlan_f153 in_X8_goPlan_X8 rfl (by decide) rfl (by omega) rfl rfl ?_
        refine z_if_ge (tgt := 67) dX8_goPlan_15 (by decide) (by omega) (fun c_15 => ?_) (fun c_15 => ?_)
        · exact z_vret dX8_goPlan_67 ⟨_, (by
      have hfin : runS (rvM mi ma) (fun k => ma 16 (at0.toNat + k)) (mi 2) nn.toNat = runS (rvM mi ma) (fun k => ma 16 (at0.toNat + k)) (mi 2) u.toNat := by
        first
          | rw [show nn.toNat = u.toNat by omega]
          | (have hs := runS_stuck (R := (rvM mi ma)) (g := (fun k => ma 16 (at0.toNat + k))) (p0 := mi 2) (t := u.toNat) (by omega) (nn.toNat - u.toNat)
             rw [show u.toNat + (nn.toNat - u.toNat) = nn.toNat by omega] at hs
             exact hs)
      rw [hfin]
      refine ⟨h16, fun q => ?_, hfr⟩
      have hun : nn.toNat = u.toNat := by omega
      rw [hun]
      exact ⟨h14.1, h14.2, h17 q⟩), rfl⟩
        · refine z_aload_n (j := 1) dX8_goPlan_18 rfl rfl ?_
          refine z_aload_n (j := 1) dX8_goPlan_19 rfl rfl ?_
          refine z_getf (i := 0) (ci := 8) (k := 27) (v := .ref (q 16)) dX8_goPlan_20 m_X8_goPlan_f57 in_X8_goPlan_X8 rfl (by decide) rfl (by omega) rfl rfl ?_
          refine z_iload_n (j := 2) dX8_goPlan_23 rfl rfl ?_
          refine z_iload_n (j := 0) dX8_goPlan_24 rfl rfl ?_
          refine z_iadd dX8_goPlan_25 ?_
          refine z_iald (i := 16) (g := ma 16) 0 dX8_goPlan_26 (by omega) rfl rfl (by omega) (by omega) (by omega) ?_
          refine z_aload_n (j := 1) dX8_goPlan_27 rfl rfl ?_
          refine z_getf (i := 0) (ci := 8) (k := 14) (v := .int (iI (yi 14))) dX8_goPlan_28 m_X8_goPlan_f147 in_X8_goPlan_X8 rfl (by decide) rfl (by omega) rfl rfl ?_
          refine z_aload_n (j := 1) dX8_goPlan_31 rfl rfl ?_
          refine z_getf (i := 0) (ci := 8) (k := 15) (v := .int (iI (yi 15))) dX8_goPlan_32 m_X8_goPlan_f150 in_X8_goPlan_X8 rfl (by decide) rfl (by omega) rfl rfl ?_
          refine z_callVi (i := 0) (ci := 8) (As := [.int (iI (ma 16 (at0 + u).toNat)), .int (iI (yi 14)), .int (iI (yi 15))]) (rest := []) (c_X8_canAct  hq hRy (by omega) (by omega) (by omega)) dX8_goPlan_35 gX8_goPlan_X8_canAct rfl cd_X8_canAct ⟨Nat.le_of_ble_eq_true rfl, Nat.le_of_ble_eq_true rfl⟩ rfl rfl (by omega) rfl rfl rfl (Nat.le_of_ble_eq_true rfl) ⟨Nat.zero_le _, Nat.zero_le _⟩ (fun r_35 g_35 hp_35 => ?_)
          obtain ⟨⟨h_35, rfl⟩ | ⟨h_35, rfl⟩, rfl⟩ := hp_35
          · refine z_if_eq (tgt := 56) dX8_goPlan_38 (by decide) (by decide) (fun h => absurd h (by decide)) (fun _ => ?_)
            refine z_aload_n (j := 1) dX8_goPlan_41 rfl rfl ?_
            refine z_aload_n (j := 1) dX8_goPlan_42 rfl rfl ?_
            refine z_getf (i := 0) (ci := 8) (k := 27) (v := .ref (q 16)) dX8_goPlan_43 m_X8_goPlan_f57 in_X8_goPlan_X8 rfl (by decide) rfl (by omega) rfl rfl ?_
            refine z_iload_n (j := 2) dX8_goPlan_46 rfl rfl ?_
            refine z_iload_n (j := 0) dX8_goPlan_47 rfl rfl ?_
            refine z_iadd dX8_goPlan_48 ?_
            refine z_iald (i := 16) (g := ma 16) 0 dX8_goPlan_49 (by omega) rfl rfl (by omega) (by omega) (by omega) ?_
            refine z_callVv (i := 0) (ci := 8) (As := [.int (iI (ma 16 (at0 + u).toNat))]) (rest := []) (c_X8_goTurn  hq hRy (by omega) (by omega) (by omega) (h17 (by omega)).2) dX8_goPlan_50 gX8_goPlan_X8_goTurn rfl cd_X8_goTurn ⟨Nat.le_of_ble_eq_true rfl, Nat.le_of_ble_eq_true rfl⟩ rfl rfl (by omega) rfl rfl rfl (Nat.le_of_ble_eq_true rfl) ⟨Nat.zero_le _, Nat.zero_le _⟩ (fun g_50 hp_50 => ?_)
            obtain ⟨mi_50, he_50, rfl⟩ := hp_50
            refine z_goto (tgt := 61) dX8_goPlan_53 (by decide) ?_
            refine z_iinc (j := 0) [(3, .int (iI (u + 1))), (0, .ref (q 0)), (1, .int (iI at0)), (2, .int (iI nn))] dX8_goPlan_61 rfl (by decide) rfl ?_
            refine z_goto (tgt := 6) dX8_goPlan_64 (by decide) ?_
            have hm9 : (runS (rvM mi ma) (fun k => ma 16 (at0.toNat + k)) (mi 2) u.toNat).2 = -9 := by omega
            rw [hRe] at h_35
            first | have hst := run_can (t := u.toNat) (act := ma 16 (at0 + u).toNat) hm9 (by rw [hnn]; omega) (by show ma 16 (at0.toNat + u.toNat) = _; rw [hix]) h14.1 h14.2 hlt.1 h_35 | have hst := run_cant (t := u.toNat) (act := ma 16 (at0 + u).toNat) hm9 (by show ma 16 (at0.toNat + u.toNat) = _; rw [hix]) h14.1 h14.2 h_35
            have hpq := pacA_rng (ma 16 (at0 + u).toNat) (yi 15) (by omega)
            exact z_sub [(3, .int (iI (u + 1))), (0, .ref (q 0)), (1, .int (iI at0)), (2, .int (iI nn))] [0, 1, 2, 3] rfl (ih_6 (u + 1) mi_50 (by omega) (by omega) (by
            rw [stepN hu.1, hst]
            first
              | (rw [he_50.2.2.2.2 16 (by decide) (by decide) (by decide) (by decide), h16]; exact hm9)
              | (rw [up_s]; show u = ((u.toNat : Nat) : Int); omega)) (by
            rw [stepN hu.1, hst]
            first
              | (rw [he_50.2.2.2.1, he_50.2.2.1, h1y, ← hnn]
                 dsimp only
                 exact ⟨by omega, by omega⟩)
              | (rw [up_n (by decide), up_n (by decide)]; exact h14)) (by
            rw [stepN hu.1, hst]
            first
              | (intro _
                 rw [prodT, polM, ← (h17 hm9).1, he_50.1, he_50.2.1]
                 have hcs : cellS (rvM mi ma) (fun k => ma 16 (at0.toNat + k)) (mi 2) u.toNat = yi 14 := h14.1.symm
                 have hgx : ma 16 (at0.toNat + u.toNat) = ma 16 (at0 + u).toNat := by rw [hix]
                 dsimp only
                 rw [hcs, hgx, hRe]
                 exact ⟨rfl, rfl⟩)
              | (intro q; exact absurd q (by show ¬ ((u.toNat : Nat) : Int) = -9; omega))) (by
            first
              | exact fun k h1 h2 h3 h4 h5 => by rw [he_50.2.2.2.2 k h1 h2 h4 h5]; exact hfr k h1 h2 h3 h4 h5
              | exact fun k h1 h2 h3 h4 h5 => by rw [up_n h3]; exact hfr k h1 h2 h3 h4 h5))
          · refine z_if_eq (tgt := 56) dX8_goPlan_38 (by decide) (by decide) (fun _ => ?_) (fun h => absurd h (by decide))
            refine z_aload_n (j := 1) dX8_goPlan_56 rfl rfl ?_
            refine z_iload_n (j := 0) dX8_goPlan_57 rfl rfl ?_
            refine z_putf (i := 0) (ci := 8) (k := 16) (cM cI cJ cZ q (va_up yi 16 u) ma) dX8_goPlan_58 m_X8_goPlan_f153 in_X8_goPlan_X8 rfl (by decide) rfl (by omega) rfl tyX8_ok nmX8 rfl rfl rfl (Nat.le_of_ble_eq_true rfl) lm_16 ?_
            refine z_iinc (j := 0) [(3, .int (iI (u + 1))), (0, .ref (q 0)), (1, .int (iI at0)), (2, .int (iI nn))] dX8_goPlan_61 rfl (by decide) rfl ?_
            refine z_goto (tgt := 6) dX8_goPlan_64 (by decide) ?_
            have hm9 : (runS (rvM mi ma) (fun k => ma 16 (at0.toNat + k)) (mi 2) u.toNat).2 = -9 := by omega
            rw [hRe] at h_35
            first | have hst := run_can (t := u.toNat) (act := ma 16 (at0 + u).toNat) hm9 (by rw [hnn]; omega) (by show ma 16 (at0.toNat + u.toNat) = _; rw [hix]) h14.1 h14.2 hlt.1 h_35 | have hst := run_cant (t := u.toNat) (act := ma 16 (at0 + u).toNat) hm9 (by show ma 16 (at0.toNat + u.toNat) = _; rw [hix]) h14.1 h14.2 h_35
            have hpq := pacA_rng (ma 16 (at0 + u).toNat) (yi 15) (by omega)
            exact z_sub [(3, .int (iI (u + 1))), (0, .ref (q 0)), (1, .int (iI at0)), (2, .int (iI nn))] [0, 1, 2, 3] rfl (ih_6 (u + 1) (va_up yi 16 u) (by omega) (by omega) (by
            rw [stepN hu.1, hst]
            first
              | (rw [he_50.2.2.2.2 16 (by decide) (by decide) (by decide) (by decide), h16]; exact hm9)
              | (rw [up_s]; show u = ((u.toNat : Nat) : Int); omega)) (by
            rw [stepN hu.1, hst]
            first
              | (rw [he_50.2.2.2.1, he_50.2.2.1, h1y, ← hnn]
                 dsimp only
                 exact ⟨by omega, by omega⟩)
              | (rw [up_n (by decide), up_n (by decide)]; exact h14)) (by
            rw [stepN hu.1, hst]
            first
              | (intro _
                 rw [prodT, polM, ← (h17 hm9).1, he_50.1, he_50.2.1]
                 have hcs : cellS (rvM mi ma) (fun k => ma 16 (at0.toNat + k)) (mi 2) u.toNat = yi 14 := h14.1.symm
                 have hgx : ma 16 (at0.toNat + u.toNat) = ma 16 (at0 + u).toNat := by rw [hix]
                 dsimp only
                 rw [hcs, hgx, hRe]
                 exact ⟨rfl, rfl⟩)
              | (intro q; exact absurd q (by show ¬ ((u.toNat : Nat) : Int) = -9; omega))) (by
            first
              | exact fun k h1 h2 h3 h4 h5 => by rw [he_50.2.2.2.2 k h1 h2 h4 h5]; exact hfr k h1 h2 h3 h4 h5
              | exact fun k h1 h2 h3 h4 h5 => by rw [up_n h3]; exact hfr k h1 h2 h3 h4 h5))
  exact z_sub [(3, .int (iI 0)), (0, .ref (q 0)), (1, .int (iI at0)), (2, .int (iI nn))] [0, 1, 2, 3] rfl (hl_6 _ 0 mi_1 (Nat.lt_succ_self _) (by omega) (by rw [he_1, up_n (by decide), up_n (by decide), up_s]; rfl) (⟨by rw [he_1, up_n (by decide), up_n (by decide), up_n (by decide), up_n (by decide), up_s]; show (0 : Int) = mi 2 / 4; omega, by rw [he_1, up_n (by decide), up_n (by decide), up_n (by decide), up_s]; show mi 2 = mi 2 % 4; omega⟩) (fun _ => ⟨by rw [he_1, up_n (by decide), up_s]; rfl, by rw [he_1, up_s]; rfl⟩) (fun k h1 h2 h3 h4 h5 => by rw [he_1, up_n h5, up_n h4, up_n h3, up_n h2, up_n h1]))
