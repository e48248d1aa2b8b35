theorem m_X8_odds_f153 : Cond.fieldLink RX8 153 "PoleBehindModel" "firstWrong" "I" ∈ wsX8_odds := List.mem_of_getElem? (i := 1) rfl
theorem in_X8_odds_X8 : ∀ w ∈ wsX80, w ∈ wsX8_odds := fun _ h => List.mem_cons_of_mem _ (List.mem_append_right _ h)
theorem m_X8_odds_f75 : Cond.fieldLink RX8 75 "PoleBehindModel" "cells" "I" ∈ wsX8_odds := List.mem_of_getElem? (i := 2) rfl
theorem m_X8_odds_f160 : Cond.fieldLink RX8 160 "PoleBehindModel" "poled" "I" ∈ wsX8_odds := List.mem_of_getElem? (i := 3) rfl
set_option maxHeartbeats 400000 in
set_option maxRecDepth 100000 in
theorem c_X8_odds {l : Launch} {D : va_G} {cI cJ cZ cR : ClassId} {q : Nat → Nat} {mi : Nat → Int} {ma : Nat → Nat → Int} (hq : qOk 18 q) {z ln i nn wh : Int} (hO : MOk mi ma) (hz : -2147483648 ≤ z ∧ z < 2147483648) (hl : -2147483648 ≤ ln ∧ ln < 2147483648) (hi : -2147483648 ≤ i ∧ i < 2147483648) (hnn : -2147483648 ≤ nn ∧ nn < 2147483648) (hwh : -2147483648 ≤ wh ∧ wh < 2147483648) : Ctl l D vwCl (tysC cI cJ cZ cR) 18 q yX8_odds wsX8_odds ({ frames := 4, cells := 0, slots := 0, locals := 99 } : Room) [.ref (q 0), .int (iI z), .int (iI ln), .int (iI i), .int (iI nn), .int (iI wh)] (cM cI cJ cZ q mi ma) (fun (r : Int64) (g : Nat → va_E) => ∃ (e : Int) (mi' : Nat → Int), (spOdds (vM mi ma) z ln i nn wh e (vM mi' ma) ∧ MOk mi' ma) ∧ r = lI e ∧ g = (cM cI cJ cZ q mi' ma)) := by
  refine Ctl.of (cc := cX8_odds) (nL := 9) (own := RX8) (ret := (some .long)) (by decide) rfl rfl hq (Nat.le_of_ble_eq_true rfl) (fun p e s m args below meth c => ?_)
  obtain ⟨hR, hn2, hQ, hSh, hSn, hHd, hRdg, hfa⟩ := id hO
  obtain ⟨hN, hP, hK, hM, hD, hB⟩ := id hR
  have hRM := MRv_M hR
  have hnn : rN (rvM mi ma) = mi 1 := rfl
  have hnA : rN (aR (vM mi ma)) = mi 1 := rfl
  refine z_aload_n (j := 0) dX8_odds_0 rfl rfl ?_
  refine z_iload_n (j := 1) dX8_odds_1 rfl rfl ?_
  refine z_iload_n (j := 2) dX8_odds_2 rfl rfl ?_
  refine z_iload_n (j := 3) dX8_odds_3 rfl rfl ?_
  refine z_iload (j := 4) dX8_odds_4 rfl ?_
  have hj_14 : ∀ (okb : Int), ((okb = 1 ∧ (wh = 0 ∨ wh = 1)) ∨ (okb = 0 ∧ ¬ (wh = 0 ∨ wh = 1))) → ZMl l D vwCl (tysC cI cJ cZ cR) 18 q ({ frames := 4, cells := 0, slots := 0, locals := 99 } : Room) cX8_odds 9 RX8 wsX8_odds (some .long) (fun (r : Int64) (g : Nat → va_E) => ∃ (e : Int) (mi' : Nat → Int), (spOdds (vM mi ma) z ln i nn wh e (vM mi' ma) ∧ MOk mi' ma) ∧ r = lI e ∧ g = (cM cI cJ cZ q mi' ma)) p e s m args below meth c (cM cI cJ cZ q mi ma) 14 [(0, .ref (q 0)), (1, .int (iI z)), (2, .int (iI ln)), (3, .int (iI i)), (4, .int (iI nn)), (5, .int (iI wh))] [.int (iI okb), .int (iI nn), .int (iI i), .int (iI ln), .int (iI z), .ref (q 0)] := by
    intro okb hok
    refine z_callVi (i := 0) (ci := 8) (As := [.int (iI z), .int (iI ln), .int (iI i), .int (iI nn), .int (iI okb)]) (rest := []) (c_X8_planBarred  hq hO (by omega) (by omega) (by omega) (by omega) (by omega)) dX8_odds_14 gX8_odds_X8_planBarred rfl cd_X8_planBarred ⟨Nat.le_of_ble_eq_true rfl, Nat.le_of_ble_eq_true rfl⟩ rfl rfl (by omega) rfl rfl rfl (Nat.le_of_ble_eq_true rfl) ⟨Nat.zero_le _, Nat.zero_le _⟩ (fun r_14 g_14 hp_14 => ?_)
    obtain ⟨e_14, mi_14, he_14, rfl, rfl⟩ := hp_14
    have hcr := chkP_rng (A := vM mi ma) (s := z) (l := ln) (i := i) (n := nn) (p := okb = 1)
    refine z_if_ge (tgt := 24) dX8_odds_17 (by decide) (by omega) (fun c_17 => ?_) (fun c_17 => ?_)
    · have hck : (chkPlan (vM mi ma) z ln i nn (okb = 1)).1 = 0 := by omega
      have hck3 : (chkPlan (vM mi ma) z ln i nn (wh = 0 ∨ wh = 1)).1 = 0 := by rw [chkPlan_iff (q := okb = 1) (by omega)]; exact hck
      have hck2 := chkP_0 hck3
      have hmi : mi_14 = va_up mi 0 0 := by rw [he_14.2, chkP_0 hck]
      obtain ⟨k1, k2, k3, k4, k5, k6, k7, k8⟩ := planM hck
      have hs14 := (hSh z.toNat).1
      have hrl := runS_lt (R := rvM mi ma) (g := actG (vM mi ma) z.toNat i) (p0 := mi 2) hN.2 (by rw [hnn]; omega) nn.toNat
      have hwr := run_wr (A := vM mi ma) (j := z.toNat) (i := i) k2
      have hRy : MRv mi_14 ma := by rw [hmi]; exact MRv_eq (up_n (by decide)) (up_n (by decide)) rfl rfl rfl rfl hR
      have hRe : rvM mi_14 ma = rvM mi ma := by rw [hmi]; exact rvM_eq (up_n (by decide)) rfl rfl rfl rfl
      have h2e : mi_14 2 = mi 2 := by rw [hmi]; exact up_n (by decide)
      have h1e : mi_14 1 = mi 1 := by rw [hmi]; exact up_n (by decide)
      refine z_aload_n (j := 0) dX8_odds_24 rfl rfl ?_
      refine z_bipush dX8_odds_25 (by decide) ?_
      refine z_iload_n (j := 1) dX8_odds_27 rfl rfl ?_
      refine z_imul dX8_odds_28 ?_
      refine z_iload_n (j := 3) dX8_odds_29 rfl rfl ?_
      refine z_iadd dX8_odds_30 ?_
      refine z_iload (j := 4) dX8_odds_31 rfl ?_
      refine z_callVv (i := 0) (ci := 8) (As := [.int (iI ((60 * z) + i)), .int (iI nn)]) (rest := []) (c_X8_goPlan  hq hRy (by omega) (by omega) k8) dX8_odds_33 gX8_odds_X8_goPlan rfl cd_X8_goPlan ⟨Nat.le_of_ble_eq_true rfl, Nat.le_of_ble_eq_true rfl⟩ rfl rfl (by omega) rfl rfl rfl (Nat.le_of_ble_eq_true rfl) ⟨Nat.zero_le _, Nat.zero_le _⟩ (fun g_33 hp_33 => ?_)
      obtain ⟨mi_33, he_33, rfl⟩ := hp_33
      rw [hRe, h2e, runM k7 (by omega)] at he_33
      obtain ⟨w16, w1, wf⟩ := he_33
      have w16b : mi_33 16 = (runA (vM mi ma) z.toNat i nn).2 := w16
      have hv : vM mi_33 ma = sFa (vM mi ma) 0 := by
        rw [vM_fr (mi := mi) (ma := ma) (by rw [wf 1 (by decide) (by decide) (by decide) (by decide) (by decide), h1e]) (by rw [wf 2 (by decide) (by decide) (by decide) (by decide) (by decide), h2e]) (by rw [wf 22 (by decide) (by decide) (by decide) (by decide) (by decide), hmi, up_n (by decide)]) (fun _ _ => rfl), wf 29 (by decide) (by decide) (by decide) (by decide) (by decide), wf 0 (by decide) (by decide) (by decide) (by decide) (by decide), hmi, up_s, up_n (by decide)]
        rfl
      have ho : MOk mi_33 ma := MOk_fr hO (by rw [wf 1 (by decide) (by decide) (by decide) (by decide) (by decide), h1e]) (by rw [wf 2 (by decide) (by decide) (by decide) (by decide) (by decide), h2e]) (by rw [wf 22 (by decide) (by decide) (by decide) (by decide) (by decide), hmi, up_n (by decide)]) (fun _ _ => rfl) (by rw [wf 0 (by decide) (by decide) (by decide) (by decide) (by decide), hmi, up_s]; omega)
      refine z_aload_n (j := 0) dX8_odds_36 rfl rfl ?_
      refine z_getf (i := 0) (ci := 8) (k := 16) (v := .int (iI (mi_33 16))) dX8_odds_37 m_X8_odds_f153 in_X8_odds_X8 rfl (by decide) rfl (by omega) rfl rfl ?_
      refine z_if_lt (tgt := 47) dX8_odds_40 (by decide) (by omega) (fun c_40 => ?_) (fun c_40 => ?_)
      · have hq9 : (runA (vM mi ma) z.toNat i nn).2 = -9 := by omega
        have hpol1 := (w1 hq9).2.2.2
        obtain ⟨pol, hpol⟩ : ∃ pol : Nat, pol = polM (actG (vM mi ma) z.toNat i) (cellA (vM mi ma) z.toNat i) nn.toNat := ⟨_, rfl⟩
        have hp18 : mi_33 18 = ((pol : Nat) : Int) := by
          rw [hpol1, hpol]
          exact congrArg (fun x : Nat => (x : Int)) (polM_congr (fun k hk => ⟨(k7 k (by omega)).symm, cellA_m k7 (by omega)⟩))
        obtain ⟨NN, hNN⟩ : ∃ NN : Nat, NN = 2 ^ (mi 1).toNat := ⟨_, rfl⟩
        have hplt : pol < NN := by
          rw [hpol, hNN]
          refine polM_lt2 nn.toNat (fun k hk => ?_)
          have hrk := runS_lt (R := rvM mi ma) (g := actG (vM mi ma) z.toNat i) (p0 := mi 2) hN.2 (by rw [hnn]; omega) k
          rw [hnn] at hrk
          show 0 ≤ (runS (rvM mi ma) (actG (vM mi ma) z.toNat i) (mi 2) k).1 / 4 ∧ (runS (rvM mi ma) (actG (vM mi ma) z.toNat i) (mi 2) k).1 / 4 < (((mi 1).toNat : Nat) : Int)
          omega
        have hNr : 1 ≤ NN ∧ NN ≤ 65536 := by
          rw [hNN]
          exact ⟨Nat.pow_pos (by decide), Nat.pow_le_pow_right (by decide) (show (mi 1).toNat ≤ 16 by omega)⟩
        have h33 : mi_33 1 = mi 1 := by rw [wf 1 (by decide) (by decide) (by decide) (by decide) (by decide), h1e]
        have hpp : popL pol (mi 1).toNat = popN pol := popL_n (by omega) (by rw [← hNN]; exact hplt)
        have hpl := popL_le (mi 1).toNat pol
        rw [hpp] at hpl
        have hap : apN pol NN = 2 ^ ((mi 1).toNat - popN pol) := by rw [hNN, apN_pow, hpp]
        have hap2 : apN pol NN ≤ NN := by rw [hap, hNN]; exact Nat.pow_le_pow_right (by decide) (by omega)
        refine z_lconst (z := 0) dX8_odds_47 (by decide) ?_
        refine z_lstore [(6, .long (lI 0)), (0, .ref (q 0)), (1, .int (iI z)), (2, .int (iI ln)), (3, .int (iI i)), (4, .int (iI nn)), (5, .int (iI wh))] dX8_odds_48 (by decide) rfl ?_
        refine z_iconst dX8_odds_50 ?_
        refine z_istore [(8, .int (iI 0)), (6, .long (lI 0)), (0, .ref (q 0)), (1, .int (iI z)), (2, .int (iI ln)), (3, .int (iI i)), (4, .int (iI nn)), (5, .int (iI wh))] dX8_odds_51 (by decide) rfl ?_
        have hl_53 : ∀ (N_53 : Nat) (u : Int) (ac : Int), (70000 - u).toNat < N_53 → (0 ≤ u ∧ u ≤ ((NN : Nat) : Int)) → (ac = ((apN pol u.toNat : Nat) : Int)) → ZMl l D vwCl (tysC cI cJ cZ cR) 18 q ({ frames := 4, cells := 0, slots := 0, locals := 99 } : Room) cX8_odds 9 RX8 wsX8_odds (some .long) (fun (r : Int64) (g : Nat → va_E) => ∃ (e : Int) (mi' : Nat → Int), (spOdds (vM mi ma) z ln i nn wh e (vM mi' ma) ∧ MOk mi' ma) ∧ r = lI e ∧ g = (cM cI cJ cZ q mi' ma)) p e s m args below meth c (cM cI cJ cZ q mi_33 ma) 53 [(8, .int (iI u)), (6, .long (lI ac)), (0, .ref (q 0)), (1, .int (iI z)), (2, .int (iI ln)), (3, .int (iI i)), (4, .int (iI nn)), (5, .int (iI wh))] [] := by
          intro N_53
          induction N_53 with
          | zero => intro u ac hm; exact absurd hm (Nat.not_lt_zero _)
          | succ N_53 ih_53 =>
            intro u ac hm_53 hu hac
            have hal : u.toNat &&& pol ≤ pol := Nat.and_le_right
            refine z_iload (j := 0) dX8_odds_53 rfl ?_
            refine z_iconst dX8_odds_55 ?_
            refine z_aload_n (j := 2) dX8_odds_56 rfl rfl ?_
            refine z_getf (i := 0) (ci := 8) (k := 1) (v := .int (iI (mi_33 1))) dX8_odds_57 m_X8_odds_f75 in_X8_odds_X8 rfl (by decide) rfl (by omega) rfl rfl ?_
            refine z_ishl (iI ((NN : Nat) : Int)) dX8_odds_60 (by rw [hNN, h33]; exact bi_shl (by omega)) ?_
            refine z_icmp_ge (tgt := 90) dX8_odds_61 (by decide) (by omega) (by omega) (fun c_61 => ?_) (fun c_61 => ?_)
            · have hun : u.toNat = NN := by omega
              rw [hun] at hac
              refine z_lload (j := 1) dX8_odds_90 rfl ?_
              refine z_lconst (z := 1) dX8_odds_92 (by decide) ?_
              refine z_aload_n (j := 2) dX8_odds_93 rfl rfl ?_
              refine z_getf (i := 0) (ci := 8) (k := 1) (v := .int (iI (mi_33 1))) dX8_odds_94 m_X8_odds_f75 in_X8_odds_X8 rfl (by decide) rfl (by omega) rfl rfl ?_
              refine z_lshl (v := lI ((NN : Nat) : Int)) dX8_odds_97 (by rw [hNN, h33]; exact bl_shl1 (by omega)) ?_
              refine z_iload (j := 7) dX8_odds_98 rfl ?_
              refine z_callSl (As := [.long (lI ac), .long (lI ((NN : Nat) : Int)), .int (iI wh)]) (rest := []) (c_X8_told  hq (by omega) (by omega) (by omega)) dX8_odds_100 gX8_odds_X8_told rfl cd_X8_told ⟨Nat.le_of_ble_eq_true rfl, Nat.le_of_ble_eq_true rfl⟩ rfl rfl rfl (Nat.le_of_ble_eq_true rfl) ⟨Nat.zero_le _, Nat.zero_le _⟩ (fun r_100 g_100 hp_100 => ?_)
              obtain ⟨⟨e_100, he_100, rfl⟩, rfl⟩ := hp_100
              exact z_lret dX8_odds_103 ⟨_, _, (by
      unfold spOdds; rw [if_neg (by omega), hck2]
      refine ⟨⟨hv, ?_⟩, ho⟩
      rw [he_100, hac, hap, hNN, told_pow hpl, hpol]), rfl, rfl⟩
            · refine z_lload (j := 1) dX8_odds_64 rfl ?_
              refine z_iload (j := 0) dX8_odds_66 rfl ?_
              refine z_aload_n (j := 2) dX8_odds_68 rfl rfl ?_
              refine z_getf (i := 0) (ci := 8) (k := 18) (v := .int (iI (mi_33 18))) dX8_odds_69 m_X8_odds_f160 in_X8_odds_X8 rfl (by decide) rfl (by omega) rfl rfl ?_
              refine z_iand (iI ((u.toNat &&& pol : Nat) : Int)) dX8_odds_72 (bi_and2 (castN hu.1).symm hp18) ?_
              refine z_if_ne (tgt := 80) dX8_odds_73 (by decide) (by omega) (fun c_73 => ?_) (fun c_73 => ?_)
              · refine z_lconst (z := 0) dX8_odds_80 (by decide) ?_
                refine z_ladd dX8_odds_81 ?_
                refine z_lstore [(6, .long (lI (ac + 0))), (8, .int (iI u)), (0, .ref (q 0)), (1, .int (iI z)), (2, .int (iI ln)), (3, .int (iI i)), (4, .int (iI nn)), (5, .int (iI wh))] dX8_odds_82 (by decide) rfl ?_
                refine z_iinc (j := 1) [(8, .int (iI (u + 1))), (6, .long (lI (ac + 0))), (0, .ref (q 0)), (1, .int (iI z)), (2, .int (iI ln)), (3, .int (iI i)), (4, .int (iI nn)), (5, .int (iI wh))] dX8_odds_84 rfl (by decide) rfl ?_
                refine z_goto (tgt := 53) dX8_odds_87 (by decide) ?_
                exact z_sub [(8, .int (iI (u + 1))), (6, .long (lI (ac + 0))), (0, .ref (q 0)), (1, .int (iI z)), (2, .int (iI ln)), (3, .int (iI i)), (4, .int (iI nn)), (5, .int (iI wh))] [0, 1, 2, 3, 4, 5, 6, 7] rfl (ih_53 (u + 1) (ac + 0) (by omega) (by omega) (by
            rw [stepN hu.1, apN]
            first
              | (rw [if_pos (show u.toNat &&& pol = 0 by omega)]; omega)
              | (rw [if_neg (show ¬ u.toNat &&& pol = 0 by omega)]; omega)))
              · refine z_lconst (z := 1) dX8_odds_76 (by decide) ?_
                refine z_goto (tgt := 81) dX8_odds_77 (by decide) ?_
                refine z_ladd dX8_odds_81 ?_
                refine z_lstore [(6, .long (lI (ac + 1))), (8, .int (iI u)), (0, .ref (q 0)), (1, .int (iI z)), (2, .int (iI ln)), (3, .int (iI i)), (4, .int (iI nn)), (5, .int (iI wh))] dX8_odds_82 (by decide) rfl ?_
                refine z_iinc (j := 1) [(8, .int (iI (u + 1))), (6, .long (lI (ac + 1))), (0, .ref (q 0)), (1, .int (iI z)), (2, .int (iI ln)), (3, .int (iI i)), (4, .int (iI nn)), (5, .int (iI wh))] dX8_odds_84 rfl (by decide) rfl ?_
                refine z_goto (tgt := 53) dX8_odds_87 (by decide) ?_
                exact z_sub [(8, .int (iI (u + 1))), (6, .long (lI (ac + 1))), (0, .ref (q 0)), (1, .int (iI z)), (2, .int (iI ln)), (3, .int (iI i)), (4, .int (iI nn)), (5, .int (iI wh))] [0, 1, 2, 3, 4, 5, 6, 7] rfl (ih_53 (u + 1) (ac + 1) (by omega) (by omega) (by
            rw [stepN hu.1, apN]
            first
              | (rw [if_pos (show u.toNat &&& pol = 0 by omega)]; omega)
              | (rw [if_neg (show ¬ u.toNat &&& pol = 0 by omega)]; omega)))
        exact z_sub [(8, .int (iI 0)), (6, .long (lI 0)), (0, .ref (q 0)), (1, .int (iI z)), (2, .int (iI ln)), (3, .int (iI i)), (4, .int (iI nn)), (5, .int (iI wh))] [0, 1, 2, 3, 4, 5, 6, 7] rfl (hl_53 _ 0 0 (Nat.lt_succ_self _) (by omega) (rfl))
      · refine z_callSl (As := []) (rest := []) (c_X8_lost  hq ) dX8_odds_43 gX8_odds_X8_lost rfl cd_X8_lost ⟨Nat.le_of_ble_eq_true rfl, Nat.le_of_ble_eq_true rfl⟩ rfl rfl rfl (Nat.le_of_ble_eq_true rfl) ⟨Nat.zero_le _, Nat.zero_le _⟩ (fun r_43 g_43 hp_43 => ?_)
        obtain ⟨⟨_, rfl, rfl⟩, rfl⟩ := hp_43
        exact z_lret dX8_odds_46 ⟨_, _, (by
      unfold spOdds; rw [if_pos (Or.inr (by omega)), hck2]
      exact ⟨⟨hv, rfl⟩, ho⟩), rfl, rfl⟩
    · refine z_callSl (As := []) (rest := []) (c_X8_lost  hq ) dX8_odds_20 gX8_odds_X8_lost rfl cd_X8_lost ⟨Nat.le_of_ble_eq_true rfl, Nat.le_of_ble_eq_true rfl⟩ rfl rfl rfl (Nat.le_of_ble_eq_true rfl) ⟨Nat.zero_le _, Nat.zero_le _⟩ (fun r_20 g_20 hp_20 => ?_)
      obtain ⟨⟨_, rfl, rfl⟩, rfl⟩ := hp_20
      exact z_lret dX8_odds_23 ⟨_, _, (by
      have hne : (chkPlan (vM mi ma) z ln i nn (wh = 0 ∨ wh = 1)).1 ≠ 0 := by rw [chkPlan_iff (q := okb = 1) (by omega), ← he_14.1]; omega
      unfold spOdds; rw [if_pos (Or.inl hne), chkPlan_iff (p := wh = 0 ∨ wh = 1) (q := okb = 1) (by omega), he_14.2]
      exact ⟨⟨vM_fa, rfl⟩, MOk_fa hO chkP_f⟩), rfl, rfl⟩
  refine z_iload (j := 5) dX8_odds_6 rfl ?_
  refine z_i2l dX8_odds_8 (by omega) ?_
  refine z_lconst (z := 0) dX8_odds_9 (by decide) ?_
  refine z_lconst (z := 1) dX8_odds_10 (by decide) ?_
  refine z_callSi (As := [.long (lI wh), .long (lI 0), .long (lI 1)]) (rest := [.int (iI nn), .int (iI i), .int (iI ln), .int (iI z), .ref (q 0)]) (c_X8_in  hq (by omega) (by omega) (by omega)) dX8_odds_11 gX8_odds_X8_in rfl cd_X8_in ⟨Nat.le_of_ble_eq_true rfl, Nat.le_of_ble_eq_true rfl⟩ rfl rfl rfl (Nat.le_of_ble_eq_true rfl) ⟨Nat.zero_le _, Nat.zero_le _⟩ (fun r_11 g_11 hp_11 => ?_)
  obtain ⟨⟨h_11, rfl⟩ | ⟨h_11, rfl⟩, rfl⟩ := hp_11
  · exact z_sub [(0, .ref (q 0)), (1, .int (iI z)), (2, .int (iI ln)), (3, .int (iI i)), (4, .int (iI nn)), (5, .int (iI wh))] [0, 1, 2, 3, 4, 5] rfl (hj_14 1 (by omega))
  · exact z_sub [(0, .ref (q 0)), (1, .int (iI z)), (2, .int (iI ln)), (3, .int (iI i)), (4, .int (iI nn)), (5, .int (iI wh))] [0, 1, 2, 3, 4, 5] rfl (hj_14 0 (by omega))
