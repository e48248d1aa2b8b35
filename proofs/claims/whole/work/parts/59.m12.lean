theorem cd_X8_shareBarred : yX8_shareBarred.cls = RX8 ∧ yX8_shareBarred.cls ≠ "java/lang/invoke/MethodHandle" ∧ yX8_shareBarred.cls ≠ "java/lang/invoke/VarHandle" ∧ (parseMethodDescriptor yX8_shareBarred.desc).map (fun d => d.parameters.length) = some 6 := ⟨rfl, by decide +kernel, by decide +kernel, by decide +kernel⟩
theorem m_X8_kinds_f7 : Cond.fieldLink RX8 7 "PoleBehindModel" "kindOf" "[I" ∈ wsX8_kinds := List.mem_of_getElem? (i := 1) rfl
theorem in_X8_kinds_X8 : ∀ w ∈ wsX80, w ∈ wsX8_kinds := fun _ h => List.mem_cons_of_mem _ (List.mem_append_right _ h)
theorem m_X8_kinds_f156 : Cond.fieldLink RX8 156 "PoleBehindModel" "dryNow" "J" ∈ wsX8_kinds := List.mem_of_getElem? (i := 2) rfl
set_option maxHeartbeats 400000 in
set_option maxRecDepth 100000 in
theorem c_X8_kinds {l : Launch} {D : va_G} {cI cJ cZ cR : ClassId} {q : Nat → Nat} {mi : Nat → Int} {ma : Nat → Nat → Int} (hq : qOk 18 q) {cc z ln i nn up : Int} (hO : MOk mi ma) (hc : -2147483648 ≤ cc ∧ cc < 2147483648) (hz : -2147483648 ≤ z ∧ z < 2147483648) (hl : -2147483648 ≤ ln ∧ ln < 2147483648) (hi : -2147483648 ≤ i ∧ i < 2147483648) (hnn : -2147483648 ≤ nn ∧ nn < 2147483648) (hup : -2147483648 ≤ up ∧ up < 2147483648) : Cti l D vwCl (tysC cI cJ cZ cR) 18 q yX8_kinds wsX8_kinds ({ frames := 5, cells := 0, slots := 0, locals := 115 } : Room) [.ref (q 0), .int (iI cc), .int (iI z), .int (iI ln), .int (iI i), .int (iI nn), .int (iI up)] (cM cI cJ cZ q mi ma) (fun (r : Int32) (g : Nat → va_E) => ∃ (e : Int) (mi' : Nat → Int) (ma' : Nat → Nat → Int), (spKinds (vM mi ma) cc z ln i nn up e (vM mi' ma') ∧ MOk mi' ma') ∧ r = iI e ∧ g = (cM cI cJ cZ q mi' ma')) := by
  refine Cti.of (cc := cX8_kinds) (nL := 11) (own := RX8) (ret := (some .int)) (by decide) rfl rfl hq (Nat.le_of_ble_eq_true rfl) (fun p e s m args below meth c => ?_)
  obtain ⟨hR, hn2, hQ, hSh, hSn, hHd, hRdg, hfa⟩ := id hO
  obtain ⟨hN, hP, hK, hM, hD, hB⟩ := id hR
  have hRM := MRv_M hR
  have hnn : rN (rvM mi ma) = mi 1 := rfl
  have hnA : rN (aR (vM mi ma)) = mi 1 := rfl
  refine z_aload_n (j := 0) dX8_kinds_0 rfl rfl ?_
  refine z_iload_n (j := 1) dX8_kinds_1 rfl rfl ?_
  refine z_iload_n (j := 2) dX8_kinds_2 rfl rfl ?_
  refine z_iload_n (j := 3) dX8_kinds_3 rfl rfl ?_
  refine z_iload (j := 4) dX8_kinds_4 rfl ?_
  refine z_iload (j := 5) dX8_kinds_6 rfl ?_
  refine z_iload (j := 6) dX8_kinds_8 rfl ?_
  refine z_callVi (i := 0) (ci := 8) (As := [.int (iI cc), .int (iI z), .int (iI ln), .int (iI i), .int (iI nn), .int (iI up)]) (rest := []) (c_X8_shareBarred  hq hO (by omega) (by omega) (by omega) (by omega) (by omega) (by omega)) dX8_kinds_10 gX8_kinds_X8_shareBarred rfl cd_X8_shareBarred ⟨Nat.le_of_ble_eq_true rfl, Nat.le_of_ble_eq_true rfl⟩ rfl rfl (by omega) rfl rfl rfl (Nat.le_of_ble_eq_true rfl) ⟨Nat.zero_le _, Nat.zero_le _⟩ (fun r_10 g_10 hp_10 => ?_)
  obtain ⟨e_10, mi_10, he_10, rfl, rfl⟩ := hp_10
  have hcr := chkF_rng (A := vM mi ma) (c := cc) (s := z) (l := ln) (i := i) (n := nn) (u := up)
  refine z_istore [(7, .int (iI e_10)), (0, .ref (q 0)), (1, .int (iI cc)), (2, .int (iI z)), (3, .int (iI ln)), (4, .int (iI i)), (5, .int (iI nn)), (6, .int (iI up))] dX8_kinds_13 (by decide) rfl ?_
  refine z_iload (j := 0) dX8_kinds_15 rfl ?_
  refine z_if_ge (tgt := 23) dX8_kinds_17 (by decide) (by omega) (fun c_17 => ?_) (fun c_17 => ?_)
  · have hcf0 : (chkFor (vM mi ma) cc z ln i nn up).1 = 0 := by omega
    obtain ⟨⟨hcz, hz3⟩, ⟨hl2, hn9, hu9⟩, hca⟩ := chkF_0in hcf0
    rw [hnA] at hcz
    obtain ⟨k2, k6, k7, k8⟩ := actsM (by omega) hca
    have hrun0 := chkF_run hcf0
    have hs14 := (hSh z.toNat).1
    have hwas := hK cc.toNat
    refine z_aload_n (j := 1) dX8_kinds_23 rfl rfl ?_
    refine z_getf (i := 0) (ci := 8) (k := 3) (v := .ref (q 1)) dX8_kinds_24 m_X8_kinds_f7 in_X8_kinds_X8 rfl (by decide) rfl (by omega) rfl rfl ?_
    refine z_iload_n (j := 2) dX8_kinds_27 rfl rfl ?_
    refine z_iald (i := 1) (g := ma 1) 0 dX8_kinds_28 (by omega) rfl rfl (by omega) (by omega) (by omega) ?_
    refine z_istore [(8, .int (iI (ma 1 cc.toNat))), (7, .int (iI e_10)), (0, .ref (q 0)), (1, .int (iI cc)), (2, .int (iI z)), (3, .int (iI ln)), (4, .int (iI i)), (5, .int (iI nn)), (6, .int (iI up))] dX8_kinds_29 (by decide) rfl ?_
    refine z_iconst dX8_kinds_31 ?_
    refine z_istore [(9, .int (iI 0)), (8, .int (iI (ma 1 cc.toNat))), (7, .int (iI e_10)), (0, .ref (q 0)), (1, .int (iI cc)), (2, .int (iI z)), (3, .int (iI ln)), (4, .int (iI i)), (5, .int (iI nn)), (6, .int (iI up))] dX8_kinds_32 (by decide) rfl ?_
    refine z_iconst dX8_kinds_34 ?_
    refine z_istore [(10, .int (iI 0)), (9, .int (iI 0)), (8, .int (iI (ma 1 cc.toNat))), (7, .int (iI e_10)), (0, .ref (q 0)), (1, .int (iI cc)), (2, .int (iI z)), (3, .int (iI ln)), (4, .int (iI i)), (5, .int (iI nn)), (6, .int (iI up))] dX8_kinds_35 (by decide) rfl ?_
    have hl_37 : ∀ (N_37 : Nat) (u : Int) (mk : Nat) (yi : Nat → Int) (ya : Nat → Nat → Int), (20 - u).toNat < N_37 → (0 ≤ u ∧ u ≤ 3) → (mk = orM (fun k => dryA (vM mi ma) z.toNat i nn cc (holdK (rD (aR (vM mi ma)) cc.toNat) (k : Int) (rM (aR (vM mi ma)) cc.toNat)) = up) u.toNat) → (∀ k, k ≠ 0 → k ≠ 14 → k ≠ 15 → k ≠ 16 → k ≠ 17 → k ≠ 18 → yi k = mi k) → (yi 0 = 0) → (∀ k, k ≠ 1 → ya k = ma k) → (∀ k, k ≠ cc.toNat → ya 1 k = ma 1 k) → ZMi l D vwCl (tysC cI cJ cZ cR) 18 q ({ frames := 5, cells := 0, slots := 0, locals := 115 } : Room) cX8_kinds 11 RX8 wsX8_kinds (some .int) (fun (r : Int32) (g : Nat → va_E) => ∃ (e : Int) (mi' : Nat → Int) (ma' : Nat → Nat → Int), (spKinds (vM mi ma) cc z ln i nn up e (vM mi' ma') ∧ MOk mi' ma') ∧ r = iI e ∧ g = (cM cI cJ cZ q mi' ma')) p e s m args below meth c (cM cI cJ cZ q yi ya) 37 [(10, .int (iI u)), (9, .int (iI ((mk : Nat) : Int))), (8, .int (iI (ma 1 cc.toNat))), (7, .int (iI e_10)), (0, .ref (q 0)), (1, .int (iI cc)), (2, .int (iI z)), (3, .int (iI ln)), (4, .int (iI i)), (5, .int (iI nn)), (6, .int (iI up))] [] := by
      intro N_37
      induction N_37 with
      | zero => intro u mk yi ya hm; exact absurd hm (Nat.not_lt_zero _)
      | succ N_37 ih_37 =>
        intro u mk yi ya hm_37 hu hmk hyi hy0 hy hy1
        have h1y := hyi 1 (by decide) (by decide) (by decide) (by decide) (by decide) (by decide)
        have h2y := hyi 2 (by decide) (by decide) (by decide) (by decide) (by decide) (by decide)
        refine z_iload (j := 0) dX8_kinds_37 rfl ?_
        refine z_iconst dX8_kinds_39 ?_
        refine z_icmp_ge (tgt := 94) dX8_kinds_40 (by decide) (by omega) (by decide) (fun c_40 => ?_) (fun c_40 => ?_)
        · refine z_aload_n (j := 4) dX8_kinds_94 rfl rfl ?_
          refine z_getf (i := 0) (ci := 8) (k := 3) (v := .ref (q 1)) dX8_kinds_95 m_X8_kinds_f7 in_X8_kinds_X8 rfl (by decide) rfl (by omega) rfl rfl ?_
          refine z_iload_n (j := 5) dX8_kinds_98 rfl rfl ?_
          refine z_iload (j := 2) dX8_kinds_99 rfl ?_
          refine z_iast (i := 1) (g := ya 1) 0 (cM cI cJ cZ q yi (va_up ya 1 (va_up (ya 1) cc.toNat (ma 1 cc.toNat)))) dX8_kinds_101 (by omega) rfl rfl (by omega) (by omega) (by omega) la_1 ?_
          refine z_iload (j := 1) dX8_kinds_102 rfl ?_
          exact z_iret dX8_kinds_104 ⟨_, _, _, (by
      rw [back_k hy hy1]
      unfold spKinds; rw [if_neg (by omega), chkF_0 hcf0]
      refine ⟨⟨vM_pl hyi hy0, ?_⟩, MOk_pl hO hyi (by omega)⟩
      rw [hmk, show u.toNat = 3 by omega]), rfl, rfl⟩
        · refine z_aload_n (j := 4) dX8_kinds_43 rfl rfl ?_
          refine z_getf (i := 0) (ci := 8) (k := 3) (v := .ref (q 1)) dX8_kinds_44 m_X8_kinds_f7 in_X8_kinds_X8 rfl (by decide) rfl (by omega) rfl rfl ?_
          refine z_iload_n (j := 5) dX8_kinds_47 rfl rfl ?_
          refine z_iload (j := 0) dX8_kinds_48 rfl ?_
          refine z_iast (i := 1) (g := ya 1) 0 (cM cI cJ cZ q yi (va_up ya 1 (va_up (ya 1) cc.toNat u))) dX8_kinds_50 (by omega) rfl rfl (by omega) (by omega) (by omega) la_1 ?_
          refine z_aload_n (j := 4) dX8_kinds_51 rfl rfl ?_
          refine z_bipush dX8_kinds_52 (by decide) ?_
          refine z_iload_n (j := 6) dX8_kinds_54 rfl rfl ?_
          refine z_imul dX8_kinds_55 ?_
          refine z_iload (j := 8) dX8_kinds_56 rfl ?_
          refine z_iadd dX8_kinds_58 ?_
          refine z_iload (j := 9) dX8_kinds_59 rfl ?_
          refine z_callVv (i := 0) (ci := 8) (As := [.int (iI ((60 * z) + i)), .int (iI nn)]) (rest := []) (c_X8_goPlan  hq (MRv_k hR h1y h2y (by omega) hy hy1) (by omega) (by omega) (by rw [up_n (by decide), hy 16 (by decide)]; exact k8)) dX8_kinds_61 gX8_kinds_X8_goPlan rfl cd_X8_goPlan ⟨Nat.le_of_ble_eq_true rfl, Nat.le_of_ble_eq_true rfl⟩ rfl rfl (by omega) rfl rfl rfl (Nat.le_of_ble_eq_true rfl) ⟨Nat.zero_le _, Nat.zero_le _⟩ (fun g_61 hp_61 => ?_)
          obtain ⟨mi_61, he_61, rfl⟩ := hp_61
          have e16 : (va_up ya 1 (va_up (ya 1) cc.toNat u)) 16 = ma 16 := by rw [up_n (by decide)]; exact hy 16 (by decide)
          rw [e16, rvM_k h1y (by omega) hy hy1, h2y] at he_61
          obtain ⟨-, w1, wf⟩ := he_61
          have h17 : mi_61 17 = dryA (vM mi ma) z.toNat i nn cc (holdK (rD (aR (vM mi ma)) cc.toNat) u (rM (aR (vM mi ma)) cc.toNat)) := by
            rw [(w1 (by rw [runM_km k7 (by omega)]; exact hrun0)).2.2.1]
            have g := shareK (c := cc.toNat) (v := u) hR (by omega) (by omega) k7 rfl
            rw [castN hcz.1] at g
            exact g
          have hdr := dryM_rng (j := z.toNat) (i := i) (nn := nn) hR cc (show 0 ≤ holdK (rD (aR (vM mi ma)) cc.toNat) u (rM (aR (vM mi ma)) cc.toNat) ∧ holdK (rD (aR (vM mi ma)) cc.toNat) u (rM (aR (vM mi ma)) cc.toNat) ≤ 9 from holdK_rng (hRM.2 cc.toNat))
          have h10 := pow10_le (show nn.toNat ≤ 18 by omega)
          refine z_iload (j := 1) dX8_kinds_64 rfl ?_
          refine z_aload_n (j := 4) dX8_kinds_66 rfl rfl ?_
          refine z_getf (i := 0) (ci := 8) (k := 17) (v := .long (lI (mi_61 17))) dX8_kinds_67 m_X8_kinds_f156 in_X8_kinds_X8 rfl (by decide) rfl (by omega) rfl rfl ?_
          refine z_iload (j := 10) dX8_kinds_70 rfl ?_
          refine z_i2l dX8_kinds_72 (by omega) ?_
          refine z_lcmp dX8_kinds_73 (by omega) (by omega) (fun r_73 hr_73 => ?_)
          refine z_if_ne (tgt := 84) dX8_kinds_74 (by decide) (by omega) (fun c_74 => ?_) (fun c_74 => ?_)
          · refine z_iconst dX8_kinds_84 ?_
            refine z_ior (iI ((mk : Nat) : Int)) dX8_kinds_85 (bi_or0 mk) ?_
            refine z_istore [(9, .int (iI ((mk : Nat) : Int))), (10, .int (iI u)), (8, .int (iI (ma 1 cc.toNat))), (7, .int (iI e_10)), (0, .ref (q 0)), (1, .int (iI cc)), (2, .int (iI z)), (3, .int (iI ln)), (4, .int (iI i)), (5, .int (iI nn)), (6, .int (iI up))] dX8_kinds_86 (by decide) rfl ?_
            refine z_iinc (j := 1) [(10, .int (iI (u + 1))), (9, .int (iI ((mk : Nat) : Int))), (8, .int (iI (ma 1 cc.toNat))), (7, .int (iI e_10)), (0, .ref (q 0)), (1, .int (iI cc)), (2, .int (iI z)), (3, .int (iI ln)), (4, .int (iI i)), (5, .int (iI nn)), (6, .int (iI up))] dX8_kinds_88 rfl (by decide) rfl ?_
            refine z_goto (tgt := 37) dX8_kinds_91 (by decide) ?_
            exact z_sub [(10, .int (iI (u + 1))), (9, .int (iI ((mk : Nat) : Int))), (8, .int (iI (ma 1 cc.toNat))), (7, .int (iI e_10)), (0, .ref (q 0)), (1, .int (iI cc)), (2, .int (iI z)), (3, .int (iI ln)), (4, .int (iI i)), (5, .int (iI nn)), (6, .int (iI up))] [0, 1, 2, 3, 4, 5, 6, 7, 8, 9, 10] rfl (ih_37 (u + 1) mk mi_61 (va_up ya 1 (va_up (ya 1) cc.toNat u)) (by omega) (by omega) (by
            rw [stepN hu.1, orM]
            rw [show ((u.toNat : Nat) : Int) = u by omega]
            first | rw [if_pos (show dryA (vM mi ma) z.toNat i nn cc (holdK (rD (aR (vM mi ma)) cc.toNat) u (rM (aR (vM mi ma)) cc.toNat)) = up by omega), hmk] | rw [if_neg (show ¬ dryA (vM mi ma) z.toNat i nn cc (holdK (rD (aR (vM mi ma)) cc.toNat) u (rM (aR (vM mi ma)) cc.toNat)) = up by omega), hmk]) (fun k h0 h1 h2 h3 h4 h5 => (wf k h1 h2 h3 h4 h5).trans (hyi k h0 h1 h2 h3 h4 h5)) ((wf 0 (by decide) (by decide) (by decide) (by decide) (by decide)).trans hy0) (fun k h => by rw [up_n h]; exact hy k h) (fun k h => by rw [up_s, up_n h]; exact hy1 k h))
          · refine z_iconst dX8_kinds_77 ?_
            refine z_iload (j := 0) dX8_kinds_78 rfl ?_
            refine z_ishl (iI ((2 ^ u.toNat : Nat) : Int)) dX8_kinds_80 (bi_shl (by omega)) ?_
            refine z_goto (tgt := 85) dX8_kinds_81 (by decide) ?_
            refine z_ior (iI ((mk ||| 2 ^ u.toNat : Nat) : Int)) dX8_kinds_85 (bi_or _ _) ?_
            refine z_istore [(9, .int (iI ((mk ||| 2 ^ u.toNat : Nat) : Int))), (10, .int (iI u)), (8, .int (iI (ma 1 cc.toNat))), (7, .int (iI e_10)), (0, .ref (q 0)), (1, .int (iI cc)), (2, .int (iI z)), (3, .int (iI ln)), (4, .int (iI i)), (5, .int (iI nn)), (6, .int (iI up))] dX8_kinds_86 (by decide) rfl ?_
            refine z_iinc (j := 1) [(10, .int (iI (u + 1))), (9, .int (iI ((mk ||| 2 ^ u.toNat : Nat) : Int))), (8, .int (iI (ma 1 cc.toNat))), (7, .int (iI e_10)), (0, .ref (q 0)), (1, .int (iI cc)), (2, .int (iI z)), (3, .int (iI ln)), (4, .int (iI i)), (5, .int (iI nn)), (6, .int (iI up))] dX8_kinds_88 rfl (by decide) rfl ?_
            refine z_goto (tgt := 37) dX8_kinds_91 (by decide) ?_
            exact z_sub [(10, .int (iI (u + 1))), (9, .int (iI ((mk ||| 2 ^ u.toNat : Nat) : Int))), (8, .int (iI (ma 1 cc.toNat))), (7, .int (iI e_10)), (0, .ref (q 0)), (1, .int (iI cc)), (2, .int (iI z)), (3, .int (iI ln)), (4, .int (iI i)), (5, .int (iI nn)), (6, .int (iI up))] [0, 1, 2, 3, 4, 5, 6, 7, 8, 9, 10] rfl (ih_37 (u + 1) (mk ||| 2 ^ u.toNat) mi_61 (va_up ya 1 (va_up (ya 1) cc.toNat u)) (by omega) (by omega) (by
            rw [stepN hu.1, orM]
            rw [show ((u.toNat : Nat) : Int) = u by omega]
            first | rw [if_pos (show dryA (vM mi ma) z.toNat i nn cc (holdK (rD (aR (vM mi ma)) cc.toNat) u (rM (aR (vM mi ma)) cc.toNat)) = up by omega), hmk] | rw [if_neg (show ¬ dryA (vM mi ma) z.toNat i nn cc (holdK (rD (aR (vM mi ma)) cc.toNat) u (rM (aR (vM mi ma)) cc.toNat)) = up by omega), hmk]) (fun k h0 h1 h2 h3 h4 h5 => (wf k h1 h2 h3 h4 h5).trans (hyi k h0 h1 h2 h3 h4 h5)) ((wf 0 (by decide) (by decide) (by decide) (by decide) (by decide)).trans hy0) (fun k h => by rw [up_n h]; exact hy k h) (fun k h => by rw [up_s, up_n h]; exact hy1 k h))
    exact z_sub [(10, .int (iI 0)), (9, .int (iI 0)), (8, .int (iI (ma 1 cc.toNat))), (7, .int (iI e_10)), (0, .ref (q 0)), (1, .int (iI cc)), (2, .int (iI z)), (3, .int (iI ln)), (4, .int (iI i)), (5, .int (iI nn)), (6, .int (iI up))] [0, 1, 2, 3, 4, 5, 6, 7, 8, 9, 10] rfl (hl_37 _ 0 0 mi_10 ma (Nat.lt_succ_self _) (by omega) (rfl) (he_10.2.2) (by rw [he_10.2.1]; exact chkF_0 hcf0) (fun _ _ => rfl) (fun _ _ => rfl))
  · refine z_iload (j := 0) dX8_kinds_20 rfl ?_
    exact z_iret dX8_kinds_22 ⟨_, _, _, (by
      unfold spKinds; rw [if_pos (show (chkFor (vM mi ma) cc z ln i nn up).1 ≠ 0 by omega)]
      exact ⟨⟨vM_pl he_10.2.2 he_10.2.1, he_10.1⟩, MOk_pl hO he_10.2.2 (by rw [he_10.2.1]; exact chkF_f)⟩), rfl, rfl⟩
theorem m_X8_muds_f13 : Cond.fieldLink RX8 13 "PoleBehindModel" "mudOf" "[I" ∈ wsX8_muds := List.mem_of_getElem? (i := 1) rfl
theorem in_X8_muds_X8 : ∀ w ∈ wsX80, w ∈ wsX8_muds := fun _ h => List.mem_cons_of_mem _ (List.mem_append_right _ h)
theorem m_X8_muds_f156 : Cond.fieldLink RX8 156 "PoleBehindModel" "dryNow" "J" ∈ wsX8_muds := List.mem_of_getElem? (i := 2) rfl
set_option maxHeartbeats 400000 in
set_option maxRecDepth 100000 in
theorem c_X8_muds {l : Launch} {D : va_G} {cI cJ cZ cR : ClassId} {q : Nat → Nat} {mi : Nat → Int} {ma : Nat → Nat → Int} (hq : qOk 18 q) {cc z ln i nn up : Int} (hO : MOk mi ma) (hc : -2147483648 ≤ cc ∧ cc < 2147483648) (hz : -2147483648 ≤ z ∧ z < 2147483648) (hl : -2147483648 ≤ ln ∧ ln < 2147483648) (hi : -2147483648 ≤ i ∧ i < 2147483648) (hnn : -2147483648 ≤ nn ∧ nn < 2147483648) (hup : -2147483648 ≤ up ∧ up < 2147483648) : Cti l D vwCl (tysC cI cJ cZ cR) 18 q yX8_muds wsX8_muds ({ frames := 5, cells := 0, slots := 0, locals := 115 } : Room) [.ref (q 0), .int (iI cc), .int (iI z), .int (iI ln), .int (iI i), .int (iI nn), .int (iI up)] (cM cI cJ cZ q mi ma) (fun (r : Int32) (g : Nat → va_E) => ∃ (e : Int) (mi' : Nat → Int) (ma' : Nat → Nat → Int), (spMuds (vM mi ma) cc z ln i nn up e (vM mi' ma') ∧ MOk mi' ma') ∧ r = iI e ∧ g = (cM cI cJ cZ q mi' ma')) := by
  refine Cti.of (cc := cX8_muds) (nL := 11) (own := RX8) (ret := (some .int)) (by decide) rfl rfl hq (Nat.le_of_ble_eq_true rfl) (fun p e s m args below meth c => ?_)
  obtain ⟨hR, hn2, hQ, hSh, hSn, hHd, hRdg, hfa⟩ := id hO
  obtain ⟨hN, hP, hK, hM, hD, hB⟩ := id hR
  have hRM := MRv_M hR
  have hnn : rN (rvM mi ma) = mi 1 := rfl
  have hnA : rN (aR (vM mi ma)) = mi 1 := rfl
  refine z_aload_n (j := 0) dX8_muds_0 rfl rfl ?_
  refine z_iload_n (j := 1) dX8_muds_1 rfl rfl ?_
  refine z_iload_n (j := 2) dX8_muds_2 rfl rfl ?_
  refine z_iload_n (j := 3) dX8_muds_3 rfl rfl ?_
  refine z_iload (j := 4) dX8_muds_4 rfl ?_
  refine z_iload (j := 5) dX8_muds_6 rfl ?_
  refine z_iload (j := 6) dX8_muds_8 rfl ?_
  refine z_callVi (i := 0) (ci := 8) (As := [.int (iI cc), .int (iI z), .int (iI ln), .int (iI i), .int (iI nn), .int (iI up)]) (rest := []) (c_X8_shareBarred  hq hO (by omega) (by omega) (by omega) (by omega) (by omega) (by omega)) dX8_muds_10 gX8_muds_X8_shareBarred rfl cd_X8_shareBarred ⟨Nat.le_of_ble_eq_true rfl, Nat.le_of_ble_eq_true rfl⟩ rfl rfl (by omega) rfl rfl rfl (Nat.le_of_ble_eq_true rfl) ⟨Nat.zero_le _, Nat.zero_le _⟩ (fun r_10 g_10 hp_10 => ?_)
  obtain ⟨e_10, mi_10, he_10, rfl, rfl⟩ := hp_10
  have hcr := chkF_rng (A := vM mi ma) (c := cc) (s := z) (l := ln) (i := i) (n := nn) (u := up)
  refine z_istore [(7, .int (iI e_10)), (0, .ref (q 0)), (1, .int (iI cc)), (2, .int (iI z)), (3, .int (iI ln)), (4, .int (iI i)), (5, .int (iI nn)), (6, .int (iI up))] dX8_muds_13 (by decide) rfl ?_
  refine z_iload (j := 0) dX8_muds_15 rfl ?_
  refine z_if_ge (tgt := 23) dX8_muds_17 (by decide) (by omega) (fun c_17 => ?_) (fun c_17 => ?_)
  · have hcf0 : (chkFor (vM mi ma) cc z ln i nn up).1 = 0 := by omega
    obtain ⟨⟨hcz, hz3⟩, ⟨hl2, hn9, hu9⟩, hca⟩ := chkF_0in hcf0
    rw [hnA] at hcz
    obtain ⟨k2, k6, k7, k8⟩ := actsM (by omega) hca
    have hrun0 := chkF_run hcf0
    have hs14 := (hSh z.toNat).1
    have hwas := hM cc.toNat
    refine z_aload_n (j := 1) dX8_muds_23 rfl rfl ?_
    refine z_getf (i := 0) (ci := 8) (k := 4) (v := .ref (q 2)) dX8_muds_24 m_X8_muds_f13 in_X8_muds_X8 rfl (by decide) rfl (by omega) rfl rfl ?_
    refine z_iload_n (j := 2) dX8_muds_27 rfl rfl ?_
    refine z_iald (i := 2) (g := ma 2) 0 dX8_muds_28 (by omega) rfl rfl (by omega) (by omega) (by omega) ?_
    refine z_istore [(8, .int (iI (ma 2 cc.toNat))), (7, .int (iI e_10)), (0, .ref (q 0)), (1, .int (iI cc)), (2, .int (iI z)), (3, .int (iI ln)), (4, .int (iI i)), (5, .int (iI nn)), (6, .int (iI up))] dX8_muds_29 (by decide) rfl ?_
    refine z_iconst dX8_muds_31 ?_
    refine z_istore [(9, .int (iI 0)), (8, .int (iI (ma 2 cc.toNat))), (7, .int (iI e_10)), (0, .ref (q 0)), (1, .int (iI cc)), (2, .int (iI z)), (3, .int (iI ln)), (4, .int (iI i)), (5, .int (iI nn)), (6, .int (iI up))] dX8_muds_32 (by decide) rfl ?_
    refine z_iconst dX8_muds_34 ?_
    refine z_istore [(10, .int (iI 0)), (9, .int (iI 0)), (8, .int (iI (ma 2 cc.toNat))), (7, .int (iI e_10)), (0, .ref (q 0)), (1, .int (iI cc)), (2, .int (iI z)), (3, .int (iI ln)), (4, .int (iI i)), (5, .int (iI nn)), (6, .int (iI up))] dX8_muds_35 (by decide) rfl ?_
    have hl_37 : ∀ (N_37 : Nat) (u : Int) (mk : Nat) (yi : Nat → Int) (ya : Nat → Nat → Int), (20 - u).toNat < N_37 → (0 ≤ u ∧ u ≤ 10) → (mk = orM (fun k => dryA (vM mi ma) z.toNat i nn cc (holdK (rD (aR (vM mi ma)) cc.toNat) (rK (aR (vM mi ma)) cc.toNat) (k : Int)) = up) u.toNat) → (∀ k, k ≠ 0 → k ≠ 14 → k ≠ 15 → k ≠ 16 → k ≠ 17 → k ≠ 18 → yi k = mi k) → (yi 0 = 0) → (∀ k, k ≠ 2 → ya k = ma k) → (∀ k, k ≠ cc.toNat → ya 2 k = ma 2 k) → ZMi l D vwCl (tysC cI cJ cZ cR) 18 q ({ frames := 5, cells := 0, slots := 0, locals := 115 } : Room) cX8_muds 11 RX8 wsX8_muds (some .int) (fun (r : Int32) (g : Nat → va_E) => ∃ (e : Int) (mi' : Nat → Int) (ma' : Nat → Nat → Int), (spMuds (vM mi ma) cc z ln i nn up e (vM mi' ma') ∧ MOk mi' ma') ∧ r = iI e ∧ g = (cM cI cJ cZ q mi' ma')) p e s m args below meth c (cM cI cJ cZ q yi ya) 37 [(10, .int (iI u)), (9, .int (iI ((mk : Nat) : Int))), (8, .int (iI (ma 2 cc.toNat))), (7, .int (iI e_10)), (0, .ref (q 0)), (1, .int (iI cc)), (2, .int (iI z)), (3, .int (iI ln)), (4, .int (iI i)), (5, .int (iI nn)), (6, .int (iI up))] [] := by
      intro N_37
      induction N_37 with
      | zero => intro u mk yi ya hm; exact absurd hm (Nat.not_lt_zero _)
      | succ N_37 ih_37 =>
        intro u mk yi ya hm_37 hu hmk hyi hy0 hy hy1
        have h1y := hyi 1 (by decide) (by decide) (by decide) (by decide) (by decide) (by decide)
        have h2y := hyi 2 (by decide) (by decide) (by decide) (by decide) (by decide) (by decide)
        refine z_iload (j := 0) dX8_muds_37 rfl ?_
        refine z_bipush dX8_muds_39 (by decide) ?_
        refine z_icmp_ge (tgt := 95) dX8_muds_41 (by decide) (by omega) (by decide) (fun c_41 => ?_) (fun c_41 => ?_)
        · refine z_aload_n (j := 4) dX8_muds_95 rfl rfl ?_
          refine z_getf (i := 0) (ci := 8) (k := 4) (v := .ref (q 2)) dX8_muds_96 m_X8_muds_f13 in_X8_muds_X8 rfl (by decide) rfl (by omega) rfl rfl ?_
          refine z_iload_n (j := 5) dX8_muds_99 rfl rfl ?_
          refine z_iload (j := 2) dX8_muds_100 rfl ?_
          refine z_iast (i := 2) (g := ya 2) 0 (cM cI cJ cZ q yi (va_up ya 2 (va_up (ya 2) cc.toNat (ma 2 cc.toNat)))) dX8_muds_102 (by omega) rfl rfl (by omega) (by omega) (by omega) la_2 ?_
          refine z_iload (j := 1) dX8_muds_103 rfl ?_
          exact z_iret dX8_muds_105 ⟨_, _, _, (by
      rw [back_m hy hy1]
      unfold spMuds; rw [if_neg (by omega), chkF_0 hcf0]
      refine ⟨⟨vM_pl hyi hy0, ?_⟩, MOk_pl hO hyi (by omega)⟩
      rw [hmk, show u.toNat = 10 by omega]), rfl, rfl⟩
        · refine z_aload_n (j := 4) dX8_muds_44 rfl rfl ?_
          refine z_getf (i := 0) (ci := 8) (k := 4) (v := .ref (q 2)) dX8_muds_45 m_X8_muds_f13 in_X8_muds_X8 rfl (by decide) rfl (by omega) rfl rfl ?_
          refine z_iload_n (j := 5) dX8_muds_48 rfl rfl ?_
          refine z_iload (j := 0) dX8_muds_49 rfl ?_
          refine z_iast (i := 2) (g := ya 2) 0 (cM cI cJ cZ q yi (va_up ya 2 (va_up (ya 2) cc.toNat u))) dX8_muds_51 (by omega) rfl rfl (by omega) (by omega) (by omega) la_2 ?_
          refine z_aload_n (j := 4) dX8_muds_52 rfl rfl ?_
          refine z_bipush dX8_muds_53 (by decide) ?_
          refine z_iload_n (j := 6) dX8_muds_55 rfl rfl ?_
          refine z_imul dX8_muds_56 ?_
          refine z_iload (j := 8) dX8_muds_57 rfl ?_
          refine z_iadd dX8_muds_59 ?_
          refine z_iload (j := 9) dX8_muds_60 rfl ?_
          refine z_callVv (i := 0) (ci := 8) (As := [.int (iI ((60 * z) + i)), .int (iI nn)]) (rest := []) (c_X8_goPlan  hq (MRv_m hR h1y h2y (by omega) hy hy1) (by omega) (by omega) (by rw [up_n (by decide), hy 16 (by decide)]; exact k8)) dX8_muds_62 gX8_muds_X8_goPlan rfl cd_X8_goPlan ⟨Nat.le_of_ble_eq_true rfl, Nat.le_of_ble_eq_true rfl⟩ rfl rfl (by omega) rfl rfl rfl (Nat.le_of_ble_eq_true rfl) ⟨Nat.zero_le _, Nat.zero_le _⟩ (fun g_62 hp_62 => ?_)
          obtain ⟨mi_62, he_62, rfl⟩ := hp_62
          have e16 : (va_up ya 2 (va_up (ya 2) cc.toNat u)) 16 = ma 16 := by rw [up_n (by decide)]; exact hy 16 (by decide)
          rw [e16, rvM_m h1y (by omega) hy hy1, h2y] at he_62
          obtain ⟨-, w1, wf⟩ := he_62
          have h17 : mi_62 17 = dryA (vM mi ma) z.toNat i nn cc (holdK (rD (aR (vM mi ma)) cc.toNat) (rK (aR (vM mi ma)) cc.toNat) u) := by
            rw [(w1 (by rw [runM_km k7 (by omega)]; exact hrun0)).2.2.1]
            have g := shareM (c := cc.toNat) (v := u) hR (by omega) (by omega) k7 rfl
            rw [castN hcz.1] at g
            exact g
          have hdr := dryM_rng (j := z.toNat) (i := i) (nn := nn) hR cc (show 0 ≤ holdK (rD (aR (vM mi ma)) cc.toNat) (rK (aR (vM mi ma)) cc.toNat) u ∧ holdK (rD (aR (vM mi ma)) cc.toNat) (rK (aR (vM mi ma)) cc.toNat) u ≤ 9 from holdK_rng (show 0 ≤ u ∧ u ≤ 9 by omega))
          have h10 := pow10_le (show nn.toNat ≤ 18 by omega)
          refine z_iload (j := 1) dX8_muds_65 rfl ?_
          refine z_aload_n (j := 4) dX8_muds_67 rfl rfl ?_
          refine z_getf (i := 0) (ci := 8) (k := 17) (v := .long (lI (mi_62 17))) dX8_muds_68 m_X8_muds_f156 in_X8_muds_X8 rfl (by decide) rfl (by omega) rfl rfl ?_
          refine z_iload (j := 10) dX8_muds_71 rfl ?_
          refine z_i2l dX8_muds_73 (by omega) ?_
          refine z_lcmp dX8_muds_74 (by omega) (by omega) (fun r_74 hr_74 => ?_)
          refine z_if_ne (tgt := 85) dX8_muds_75 (by decide) (by omega) (fun c_75 => ?_) (fun c_75 => ?_)
          · refine z_iconst dX8_muds_85 ?_
            refine z_ior (iI ((mk : Nat) : Int)) dX8_muds_86 (bi_or0 mk) ?_
            refine z_istore [(9, .int (iI ((mk : Nat) : Int))), (10, .int (iI u)), (8, .int (iI (ma 2 cc.toNat))), (7, .int (iI e_10)), (0, .ref (q 0)), (1, .int (iI cc)), (2, .int (iI z)), (3, .int (iI ln)), (4, .int (iI i)), (5, .int (iI nn)), (6, .int (iI up))] dX8_muds_87 (by decide) rfl ?_
            refine z_iinc (j := 1) [(10, .int (iI (u + 1))), (9, .int (iI ((mk : Nat) : Int))), (8, .int (iI (ma 2 cc.toNat))), (7, .int (iI e_10)), (0, .ref (q 0)), (1, .int (iI cc)), (2, .int (iI z)), (3, .int (iI ln)), (4, .int (iI i)), (5, .int (iI nn)), (6, .int (iI up))] dX8_muds_89 rfl (by decide) rfl ?_
            refine z_goto (tgt := 37) dX8_muds_92 (by decide) ?_
            exact z_sub [(10, .int (iI (u + 1))), (9, .int (iI ((mk : Nat) : Int))), (8, .int (iI (ma 2 cc.toNat))), (7, .int (iI e_10)), (0, .ref (q 0)), (1, .int (iI cc)), (2, .int (iI z)), (3, .int (iI ln)), (4, .int (iI i)), (5, .int (iI nn)), (6, .int (iI up))] [0, 1, 2, 3, 4, 5, 6, 7, 8, 9, 10] rfl (ih_37 (u + 1) mk mi_62 (va_up ya 2 (va_up (ya 2) cc.toNat u)) (by omega) (by omega) (by
            rw [stepN hu.1, orM]
            rw [show ((u.toNat : Nat) : Int) = u by omega]
            first | rw [if_pos (show dryA (vM mi ma) z.toNat i nn cc (holdK (rD (aR (vM mi ma)) cc.toNat) (rK (aR (vM mi ma)) cc.toNat) u) = up by omega), hmk] | rw [if_neg (show ¬ dryA (vM mi ma) z.toNat i nn cc (holdK (rD (aR (vM mi ma)) cc.toNat) (rK (aR (vM mi ma)) cc.toNat) u) = up by omega), hmk]) (fun k h0 h1 h2 h3 h4 h5 => (wf k h1 h2 h3 h4 h5).trans (hyi k h0 h1 h2 h3 h4 h5)) ((wf 0 (by decide) (by decide) (by decide) (by decide) (by decide)).trans hy0) (fun k h => by rw [up_n h]; exact hy k h) (fun k h => by rw [up_s, up_n h]; exact hy1 k h))
          · refine z_iconst dX8_muds_78 ?_
            refine z_iload (j := 0) dX8_muds_79 rfl ?_
            refine z_ishl (iI ((2 ^ u.toNat : Nat) : Int)) dX8_muds_81 (bi_shl (by omega)) ?_
            refine z_goto (tgt := 86) dX8_muds_82 (by decide) ?_
            refine z_ior (iI ((mk ||| 2 ^ u.toNat : Nat) : Int)) dX8_muds_86 (bi_or _ _) ?_
            refine z_istore [(9, .int (iI ((mk ||| 2 ^ u.toNat : Nat) : Int))), (10, .int (iI u)), (8, .int (iI (ma 2 cc.toNat))), (7, .int (iI e_10)), (0, .ref (q 0)), (1, .int (iI cc)), (2, .int (iI z)), (3, .int (iI ln)), (4, .int (iI i)), (5, .int (iI nn)), (6, .int (iI up))] dX8_muds_87 (by decide) rfl ?_
            refine z_iinc (j := 1) [(10, .int (iI (u + 1))), (9, .int (iI ((mk ||| 2 ^ u.toNat : Nat) : Int))), (8, .int (iI (ma 2 cc.toNat))), (7, .int (iI e_10)), (0, .ref (q 0)), (1, .int (iI cc)), (2, .int (iI z)), (3, .int (iI ln)), (4, .int (iI i)), (5, .int (iI nn)), (6, .int (iI up))] dX8_muds_89 rfl (by decide) rfl ?_
            refine z_goto (tgt := 37) dX8_muds_92 (by decide) ?_
            exact z_sub [(10, .int (iI (u + 1))), (9, .int (iI ((mk ||| 2 ^ u.toNat : Nat) : Int))), (8, .int (iI (ma 2 cc.toNat))), (7, .int (iI e_10)), (0, .ref (q 0)), (1, .int (iI cc)), (2, .int (iI z)), (3, .int (iI ln)), (4, .int (iI i)), (5, .int (iI nn)), (6, .int (iI up))] [0, 1, 2, 3, 4, 5, 6, 7, 8, 9, 10] rfl (ih_37 (u + 1) (mk ||| 2 ^ u.toNat) mi_62 (va_up ya 2 (va_up (ya 2) cc.toNat u)) (by omega) (by omega) (by
            rw [stepN hu.1, orM]
            rw [show ((u.toNat : Nat) : Int) = u by omega]
            first | rw [if_pos (show dryA (vM mi ma) z.toNat i nn cc (holdK (rD (aR (vM mi ma)) cc.toNat) (rK (aR (vM mi ma)) cc.toNat) u) = up by omega), hmk] | rw [if_neg (show ¬ dryA (vM mi ma) z.toNat i nn cc (holdK (rD (aR (vM mi ma)) cc.toNat) (rK (aR (vM mi ma)) cc.toNat) u) = up by omega), hmk]) (fun k h0 h1 h2 h3 h4 h5 => (wf k h1 h2 h3 h4 h5).trans (hyi k h0 h1 h2 h3 h4 h5)) ((wf 0 (by decide) (by decide) (by decide) (by decide) (by decide)).trans hy0) (fun k h => by rw [up_n h]; exact hy k h) (fun k h => by rw [up_s, up_n h]; exact hy1 k h))
    exact z_sub [(10, .int (iI 0)), (9, .int (iI 0)), (8, .int (iI (ma 2 cc.toNat))), (7, .int (iI e_10)), (0, .ref (q 0)), (1, .int (iI cc)), (2, .int (iI z)), (3, .int (iI ln)), (4, .int (iI i)), (5, .int (iI nn)), (6, .int (iI up))] [0, 1, 2, 3, 4, 5, 6, 7, 8, 9, 10] rfl (hl_37 _ 0 0 mi_10 ma (Nat.lt_succ_self _) (by omega) (rfl) (he_10.2.2) (by rw [he_10.2.1]; exact chkF_0 hcf0) (fun _ _ => rfl) (fun _ _ => rfl))
  · refine z_iload (j := 0) dX8_muds_20 rfl ?_
    exact z_iret dX8_muds_22 ⟨_, _, _, (by
      unfold spMuds; rw [if_pos (show (chkFor (vM mi ma) cc z ln i nn up).1 ≠ 0 by omega)]
      exact ⟨⟨vM_pl he_10.2.2 he_10.2.1, he_10.1⟩, MOk_pl hO he_10.2.2 (by rw [he_10.2.1]; exact chkF_f)⟩), rfl, rfl⟩
