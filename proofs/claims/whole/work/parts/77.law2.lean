theorem cd_X7_muds : yX7_muds.cls = RX7 ∧ yX7_muds.cls ≠ "java/lang/invoke/MethodHandle" ∧ yX7_muds.cls ≠ "java/lang/invoke/VarHandle" ∧ (parseMethodDescriptor yX7_muds.desc).map (fun d => d.parameters.length) = some 6 := ⟨rfl, by decide +kernel, by decide +kernel, by decide +kernel⟩
theorem cd_X8_muds : yX8_muds.cls = RX8 ∧ yX8_muds.cls ≠ "java/lang/invoke/MethodHandle" ∧ yX8_muds.cls ≠ "java/lang/invoke/VarHandle" ∧ (parseMethodDescriptor yX8_muds.desc).map (fun d => d.parameters.length) = some 6 := ⟨rfl, by decide +kernel, by decide +kernel, by decide +kernel⟩
set_option maxHeartbeats 4000000 in
set_option maxRecDepth 100000 in
theorem lc_muds {p : Program} {l : Launch} {e : Env} {s : State} {m : MethodId} {args : Array Value} {below : List Frame} {meth : Method} {c : Code} {Q : State → Prop} {D : va_G} {cI cJ cZ cR : ClassId} {qx qm : Nat → Nat} {b L : Nat} {xs : Nat → Int32} {w d : Nat} {xi : Nat → Int} {xa : Nat → Nat → Int} {mi : Nat → Int} {ma : Nat → Nat → Int} {i : Int} (hqx : qOk 31 qx) (hqm : qOk 18 qm) (hXO : XOk w d xi xa) (hMO : MOk mi ma) (hv : vX w xi xa = vM mi ma) (hi : 0 ≤ i ∧ i + 7 ≤ (L : Int)) (kk : ∀ (w' d' : Nat) (xi' : Nat → Int) (xa' : Nat → Nat → Int) (mi' : Nat → Int) (ma' : Nat → Nat → Int), XOk w' d' xi' xa' → MOk mi' ma' → vX w' xi' xa' = vM mi' ma' → VV p l e room_1 s m args below meth c Q 49 3256 cL_law 4 RL wsL_law D vwCl (tysC cI cJ cZ cR) 31 qx 18 qm b L xs (cX cI cJ cZ cR qx w' d' xi' xa') (cM cI cJ cZ qm mi' ma') 1191 [(3, .int (iI i)), (2, .ref (qm 0)), (1, .ref (qx 0)), (0, .ref b)] []) : VV p l e room_1 s m args below meth c Q 49 3256 cL_law 4 RL wsL_law D vwCl (tysC cI cJ cZ cR) 31 qx 18 qm b L xs (cX cI cJ cZ cR qx w d xi xa) (cM cI cJ cZ qm mi ma) 708 [(3, .int (iI i)), (2, .ref (qm 0)), (1, .ref (qx 0)), (0, .ref b)] [] := by
  refine v_aload_n (j := 2) dL_law_708 rfl rfl ?_
  refine v_aload_n (j := 3) dL_law_709 rfl rfl ?_
  refine v_iload_n (j := 0) dL_law_710 rfl rfl ?_
  refine v_iconst dL_law_711 ?_
  refine v_iadd dL_law_712 ?_
  refine v_sld dL_law_713 (by omega) (by omega) ?_
  refine v_aload_n (j := 3) dL_law_714 rfl rfl ?_
  refine v_iload_n (j := 0) dL_law_715 rfl rfl ?_
  refine v_iconst dL_law_716 ?_
  refine v_iadd dL_law_717 ?_
  refine v_sld dL_law_718 (by omega) (by omega) ?_
  refine v_aload_n (j := 3) dL_law_719 rfl rfl ?_
  refine v_iload_n (j := 0) dL_law_720 rfl rfl ?_
  refine v_iconst dL_law_721 ?_
  refine v_iadd dL_law_722 ?_
  refine v_sld dL_law_723 (by omega) (by omega) ?_
  refine v_aload_n (j := 3) dL_law_724 rfl rfl ?_
  refine v_iload_n (j := 0) dL_law_725 rfl rfl ?_
  refine v_iconst dL_law_726 ?_
  refine v_iadd dL_law_727 ?_
  refine v_sld dL_law_728 (by omega) (by omega) ?_
  refine v_aload_n (j := 3) dL_law_729 rfl rfl ?_
  refine v_iload_n (j := 0) dL_law_730 rfl rfl ?_
  refine v_iconst dL_law_731 ?_
  refine v_iadd dL_law_732 ?_
  refine v_sld dL_law_733 (by omega) (by omega) ?_
  refine v_aload_n (j := 3) dL_law_734 rfl rfl ?_
  refine v_iload_n (j := 0) dL_law_735 rfl rfl ?_
  refine v_bipush dL_law_736 (by decide) ?_
  refine v_iadd dL_law_738 ?_
  refine v_sld dL_law_739 (by omega) (by omega) ?_
  refine v_call1i (i := 0) (ci := 7) (As := [.int (iI (sx xs (i + 1).toNat)), .int (iI (sx xs (i + 2).toNat)), .int (iI (sx xs (i + 3).toNat)), .int (iI (sx xs (i + 4).toNat)), .int (iI (sx xs (i + 5).toNat)), .int (iI (sx xs (i + 6).toNat))]) (rest := []) (c_X7_muds hqx hXO (sx_rng _ _) (sx_rng _ _) (sx_rng _ _) (sx_rng _ _) (sx_rng _ _) (sx_rng _ _)) dL_law_740 gL_law_X7_muds rfl cd_X7_muds ⟨Nat.le_of_ble_eq_true rfl, Nat.le_of_ble_eq_true rfl⟩ rfl rfl (by decide) rfl rfl rfl (Nat.le_of_ble_eq_true rfl) ⟨Nat.le_of_ble_eq_true rfl, Nat.le_of_ble_eq_true rfl⟩ (fun r1 g1 hp1 => ?_)
  obtain ⟨e1, xi', xa', he1, rfl, rfl⟩ := hp1
  refine v_aload_n (j := 1) dL_law_743 rfl rfl ?_
  refine v_aload_n (j := 3) dL_law_744 rfl rfl ?_
  refine v_iload_n (j := 0) dL_law_745 rfl rfl ?_
  refine v_iconst dL_law_746 ?_
  refine v_iadd dL_law_747 ?_
  refine v_sld dL_law_748 (by omega) (by omega) ?_
  refine v_aload_n (j := 3) dL_law_749 rfl rfl ?_
  refine v_iload_n (j := 0) dL_law_750 rfl rfl ?_
  refine v_iconst dL_law_751 ?_
  refine v_iadd dL_law_752 ?_
  refine v_sld dL_law_753 (by omega) (by omega) ?_
  refine v_aload_n (j := 3) dL_law_754 rfl rfl ?_
  refine v_iload_n (j := 0) dL_law_755 rfl rfl ?_
  refine v_iconst dL_law_756 ?_
  refine v_iadd dL_law_757 ?_
  refine v_sld dL_law_758 (by omega) (by omega) ?_
  refine v_aload_n (j := 3) dL_law_759 rfl rfl ?_
  refine v_iload_n (j := 0) dL_law_760 rfl rfl ?_
  refine v_iconst dL_law_761 ?_
  refine v_iadd dL_law_762 ?_
  refine v_sld dL_law_763 (by omega) (by omega) ?_
  refine v_aload_n (j := 3) dL_law_764 rfl rfl ?_
  refine v_iload_n (j := 0) dL_law_765 rfl rfl ?_
  refine v_iconst dL_law_766 ?_
  refine v_iadd dL_law_767 ?_
  refine v_sld dL_law_768 (by omega) (by omega) ?_
  refine v_aload_n (j := 3) dL_law_769 rfl rfl ?_
  refine v_iload_n (j := 0) dL_law_770 rfl rfl ?_
  refine v_bipush dL_law_771 (by decide) ?_
  refine v_iadd dL_law_773 ?_
  refine v_sld dL_law_774 (by omega) (by omega) ?_
  refine v_call2i (i := 0) (ci := 8) (As := [.int (iI (sx xs (i + 1).toNat)), .int (iI (sx xs (i + 2).toNat)), .int (iI (sx xs (i + 3).toNat)), .int (iI (sx xs (i + 4).toNat)), .int (iI (sx xs (i + 5).toNat)), .int (iI (sx xs (i + 6).toNat))]) (rest := [.int (iI e1)]) (c_X8_muds hqm hMO (sx_rng _ _) (sx_rng _ _) (sx_rng _ _) (sx_rng _ _) (sx_rng _ _) (sx_rng _ _)) dL_law_775 gL_law_X8_muds rfl cd_X8_muds ⟨Nat.le_of_ble_eq_true rfl, Nat.le_of_ble_eq_true rfl⟩ rfl rfl (by decide) rfl rfl rfl (Nat.le_of_ble_eq_true rfl) ⟨Nat.le_of_ble_eq_true rfl, Nat.le_of_ble_eq_true rfl⟩ (fun r2 g2 hp2 => ?_)
  obtain ⟨e2, mi', ma', he2, rfl, rfl⟩ := hp2
  obtain ⟨hs1, hXn⟩ := he1
  obtain ⟨hs2, hMn⟩ := he2
  rw [← hv] at hs2
  obtain ⟨hee, hvv⟩ := dt_muds hs2 hs1
  have hvv := hvv.symm
  rw [hee]
  refine v_icmp_same (tgt := 1191) dL_law_778 (by decide) ?_
  exact kk w d xi' xa' mi' ma' hXn hMn hvv
theorem cd_X7_odds : yX7_odds.cls = RX7 ∧ yX7_odds.cls ≠ "java/lang/invoke/MethodHandle" ∧ yX7_odds.cls ≠ "java/lang/invoke/VarHandle" ∧ (parseMethodDescriptor yX7_odds.desc).map (fun d => d.parameters.length) = some 5 := ⟨rfl, by decide +kernel, by decide +kernel, by decide +kernel⟩
theorem cd_X8_odds : yX8_odds.cls = RX8 ∧ yX8_odds.cls ≠ "java/lang/invoke/MethodHandle" ∧ yX8_odds.cls ≠ "java/lang/invoke/VarHandle" ∧ (parseMethodDescriptor yX8_odds.desc).map (fun d => d.parameters.length) = some 5 := ⟨rfl, by decide +kernel, by decide +kernel, by decide +kernel⟩
set_option maxHeartbeats 4000000 in
set_option maxRecDepth 100000 in
theorem lc_odds {p : Program} {l : Launch} {e : Env} {s : State} {m : MethodId} {args : Array Value} {below : List Frame} {meth : Method} {c : Code} {Q : State → Prop} {D : va_G} {cI cJ cZ cR : ClassId} {qx qm : Nat → Nat} {b L : Nat} {xs : Nat → Int32} {w d : Nat} {xi : Nat → Int} {xa : Nat → Nat → Int} {mi : Nat → Int} {ma : Nat → Nat → Int} {i : Int} (hqx : qOk 31 qx) (hqm : qOk 18 qm) (hXO : XOk w d xi xa) (hMO : MOk mi ma) (hv : vX w xi xa = vM mi ma) (hi : 0 ≤ i ∧ i + 7 ≤ (L : Int)) (kk : ∀ (w' d' : Nat) (xi' : Nat → Int) (xa' : Nat → Nat → Int) (mi' : Nat → Int) (ma' : Nat → Nat → Int), XOk w' d' xi' xa' → MOk mi' ma' → vX w' xi' xa' = vM mi' ma' → VV p l e room_1 s m args below meth c Q 49 3256 cL_law 4 RL wsL_law D vwCl (tysC cI cJ cZ cR) 31 qx 18 qm b L xs (cX cI cJ cZ cR qx w' d' xi' xa') (cM cI cJ cZ qm mi' ma') 1191 [(3, .int (iI i)), (2, .ref (qm 0)), (1, .ref (qx 0)), (0, .ref b)] []) : VV p l e room_1 s m args below meth c Q 49 3256 cL_law 4 RL wsL_law D vwCl (tysC cI cJ cZ cR) 31 qx 18 qm b L xs (cX cI cJ cZ cR qx w d xi xa) (cM cI cJ cZ qm mi ma) 783 [(3, .int (iI i)), (2, .ref (qm 0)), (1, .ref (qx 0)), (0, .ref b)] [] := by
  refine v_aload_n (j := 2) dL_law_783 rfl rfl ?_
  refine v_aload_n (j := 3) dL_law_784 rfl rfl ?_
  refine v_iload_n (j := 0) dL_law_785 rfl rfl ?_
  refine v_iconst dL_law_786 ?_
  refine v_iadd dL_law_787 ?_
  refine v_sld dL_law_788 (by omega) (by omega) ?_
  refine v_aload_n (j := 3) dL_law_789 rfl rfl ?_
  refine v_iload_n (j := 0) dL_law_790 rfl rfl ?_
  refine v_iconst dL_law_791 ?_
  refine v_iadd dL_law_792 ?_
  refine v_sld dL_law_793 (by omega) (by omega) ?_
  refine v_aload_n (j := 3) dL_law_794 rfl rfl ?_
  refine v_iload_n (j := 0) dL_law_795 rfl rfl ?_
  refine v_iconst dL_law_796 ?_
  refine v_iadd dL_law_797 ?_
  refine v_sld dL_law_798 (by omega) (by omega) ?_
  refine v_aload_n (j := 3) dL_law_799 rfl rfl ?_
  refine v_iload_n (j := 0) dL_law_800 rfl rfl ?_
  refine v_iconst dL_law_801 ?_
  refine v_iadd dL_law_802 ?_
  refine v_sld dL_law_803 (by omega) (by omega) ?_
  refine v_aload_n (j := 3) dL_law_804 rfl rfl ?_
  refine v_iload_n (j := 0) dL_law_805 rfl rfl ?_
  refine v_iconst dL_law_806 ?_
  refine v_iadd dL_law_807 ?_
  refine v_sld dL_law_808 (by omega) (by omega) ?_
  refine v_call1l (i := 0) (ci := 7) (As := [.int (iI (sx xs (i + 1).toNat)), .int (iI (sx xs (i + 2).toNat)), .int (iI (sx xs (i + 3).toNat)), .int (iI (sx xs (i + 4).toNat)), .int (iI (sx xs (i + 5).toNat))]) (rest := []) (c_X7_odds hqx hXO (sx_rng _ _) (sx_rng _ _) (sx_rng _ _) (sx_rng _ _) (sx_rng _ _)) dL_law_809 gL_law_X7_odds rfl cd_X7_odds ⟨Nat.le_of_ble_eq_true rfl, Nat.le_of_ble_eq_true rfl⟩ rfl rfl (by decide) rfl rfl rfl (Nat.le_of_ble_eq_true rfl) ⟨Nat.le_of_ble_eq_true rfl, Nat.le_of_ble_eq_true rfl⟩ (fun r1 g1 hp1 => ?_)
  obtain ⟨e1, xi', xa', he1, rfl, rfl⟩ := hp1
  refine v_aload_n (j := 1) dL_law_812 rfl rfl ?_
  refine v_aload_n (j := 3) dL_law_813 rfl rfl ?_
  refine v_iload_n (j := 0) dL_law_814 rfl rfl ?_
  refine v_iconst dL_law_815 ?_
  refine v_iadd dL_law_816 ?_
  refine v_sld dL_law_817 (by omega) (by omega) ?_
  refine v_aload_n (j := 3) dL_law_818 rfl rfl ?_
  refine v_iload_n (j := 0) dL_law_819 rfl rfl ?_
  refine v_iconst dL_law_820 ?_
  refine v_iadd dL_law_821 ?_
  refine v_sld dL_law_822 (by omega) (by omega) ?_
  refine v_aload_n (j := 3) dL_law_823 rfl rfl ?_
  refine v_iload_n (j := 0) dL_law_824 rfl rfl ?_
  refine v_iconst dL_law_825 ?_
  refine v_iadd dL_law_826 ?_
  refine v_sld dL_law_827 (by omega) (by omega) ?_
  refine v_aload_n (j := 3) dL_law_828 rfl rfl ?_
  refine v_iload_n (j := 0) dL_law_829 rfl rfl ?_
  refine v_iconst dL_law_830 ?_
  refine v_iadd dL_law_831 ?_
  refine v_sld dL_law_832 (by omega) (by omega) ?_
  refine v_aload_n (j := 3) dL_law_833 rfl rfl ?_
  refine v_iload_n (j := 0) dL_law_834 rfl rfl ?_
  refine v_iconst dL_law_835 ?_
  refine v_iadd dL_law_836 ?_
  refine v_sld dL_law_837 (by omega) (by omega) ?_
  refine v_call2l (i := 0) (ci := 8) (As := [.int (iI (sx xs (i + 1).toNat)), .int (iI (sx xs (i + 2).toNat)), .int (iI (sx xs (i + 3).toNat)), .int (iI (sx xs (i + 4).toNat)), .int (iI (sx xs (i + 5).toNat))]) (rest := [.long (lI e1)]) (c_X8_odds hqm hMO (sx_rng _ _) (sx_rng _ _) (sx_rng _ _) (sx_rng _ _) (sx_rng _ _)) dL_law_838 gL_law_X8_odds rfl cd_X8_odds ⟨Nat.le_of_ble_eq_true rfl, Nat.le_of_ble_eq_true rfl⟩ rfl rfl (by decide) rfl rfl rfl (Nat.le_of_ble_eq_true rfl) ⟨Nat.le_of_ble_eq_true rfl, Nat.le_of_ble_eq_true rfl⟩ (fun r2 g2 hp2 => ?_)
  obtain ⟨e2, mi', he2, rfl, rfl⟩ := hp2
  obtain ⟨hs1, hXn⟩ := he1
  obtain ⟨hs2, hMn⟩ := he2
  rw [← hv] at hs2
  obtain ⟨hee, hvv⟩ := dt_odds hs2 hs1
  have hvv := hvv.symm
  rw [hee]
  refine v_lcmp_same dL_law_841 ?_
  refine v_if_eq (tgt := 1191) dL_law_842 (by decide) (by decide) (fun _ => ?_) (fun h => absurd rfl h)
  exact kk w d xi' xa' mi' ma hXn hMn hvv
theorem cd_X7_sheet : yX7_sheet.cls = RX7 ∧ yX7_sheet.cls ≠ "java/lang/invoke/MethodHandle" ∧ yX7_sheet.cls ≠ "java/lang/invoke/VarHandle" ∧ (parseMethodDescriptor yX7_sheet.desc).map (fun d => d.parameters.length) = some 3 := ⟨rfl, by decide +kernel, by decide +kernel, by decide +kernel⟩
theorem cd_X8_sheet : yX8_sheet.cls = RX8 ∧ yX8_sheet.cls ≠ "java/lang/invoke/MethodHandle" ∧ yX8_sheet.cls ≠ "java/lang/invoke/VarHandle" ∧ (parseMethodDescriptor yX8_sheet.desc).map (fun d => d.parameters.length) = some 3 := ⟨rfl, by decide +kernel, by decide +kernel, by decide +kernel⟩
set_option maxHeartbeats 4000000 in
set_option maxRecDepth 100000 in
theorem lc_sheet {p : Program} {l : Launch} {e : Env} {s : State} {m : MethodId} {args : Array Value} {below : List Frame} {meth : Method} {c : Code} {Q : State → Prop} {D : va_G} {cI cJ cZ cR : ClassId} {qx qm : Nat → Nat} {b L : Nat} {xs : Nat → Int32} {w d : Nat} {xi : Nat → Int} {xa : Nat → Nat → Int} {mi : Nat → Int} {ma : Nat → Nat → Int} {i : Int} (hqx : qOk 31 qx) (hqm : qOk 18 qm) (hXO : XOk w d xi xa) (hMO : MOk mi ma) (hv : vX w xi xa = vM mi ma) (hi : 0 ≤ i ∧ i + 7 ≤ (L : Int)) (kk : ∀ (w' d' : Nat) (xi' : Nat → Int) (xa' : Nat → Nat → Int) (mi' : Nat → Int) (ma' : Nat → Nat → Int), XOk w' d' xi' xa' → MOk mi' ma' → vX w' xi' xa' = vM mi' ma' → VV p l e room_1 s m args below meth c Q 49 3256 cL_law 4 RL wsL_law D vwCl (tysC cI cJ cZ cR) 31 qx 18 qm b L xs (cX cI cJ cZ cR qx w' d' xi' xa') (cM cI cJ cZ qm mi' ma') 1191 [(3, .int (iI i)), (2, .ref (qm 0)), (1, .ref (qx 0)), (0, .ref b)] []) : VV p l e room_1 s m args below meth c Q 49 3256 cL_law 4 RL wsL_law D vwCl (tysC cI cJ cZ cR) 31 qx 18 qm b L xs (cX cI cJ cZ cR qx w d xi xa) (cM cI cJ cZ qm mi ma) 847 [(3, .int (iI i)), (2, .ref (qm 0)), (1, .ref (qx 0)), (0, .ref b)] [] := by
  refine v_aload_n (j := 2) dL_law_847 rfl rfl ?_
  refine v_aload_n (j := 3) dL_law_848 rfl rfl ?_
  refine v_iload_n (j := 0) dL_law_849 rfl rfl ?_
  refine v_iconst dL_law_850 ?_
  refine v_iadd dL_law_851 ?_
  refine v_sld dL_law_852 (by omega) (by omega) ?_
  refine v_aload_n (j := 3) dL_law_853 rfl rfl ?_
  refine v_iload_n (j := 0) dL_law_854 rfl rfl ?_
  refine v_iconst dL_law_855 ?_
  refine v_iadd dL_law_856 ?_
  refine v_sld dL_law_857 (by omega) (by omega) ?_
  refine v_aload_n (j := 3) dL_law_858 rfl rfl ?_
  refine v_iload_n (j := 0) dL_law_859 rfl rfl ?_
  refine v_iconst dL_law_860 ?_
  refine v_iadd dL_law_861 ?_
  refine v_sld dL_law_862 (by omega) (by omega) ?_
  refine v_call1i (i := 0) (ci := 7) (As := [.int (iI (sx xs (i + 1).toNat)), .int (iI (sx xs (i + 2).toNat)), .int (iI (sx xs (i + 3).toNat))]) (rest := []) (c_X7_sheet hqx hXO (sx_rng _ _) (sx_rng _ _) (sx_rng _ _)) dL_law_863 gL_law_X7_sheet rfl cd_X7_sheet ⟨Nat.le_of_ble_eq_true rfl, Nat.le_of_ble_eq_true rfl⟩ rfl rfl (by decide) rfl rfl rfl (Nat.le_of_ble_eq_true rfl) ⟨Nat.le_of_ble_eq_true rfl, Nat.le_of_ble_eq_true rfl⟩ (fun r1 g1 hp1 => ?_)
  obtain ⟨e1, xi', xa', he1, rfl, rfl⟩ := hp1
  refine v_aload_n (j := 1) dL_law_866 rfl rfl ?_
  refine v_aload_n (j := 3) dL_law_867 rfl rfl ?_
  refine v_iload_n (j := 0) dL_law_868 rfl rfl ?_
  refine v_iconst dL_law_869 ?_
  refine v_iadd dL_law_870 ?_
  refine v_sld dL_law_871 (by omega) (by omega) ?_
  refine v_aload_n (j := 3) dL_law_872 rfl rfl ?_
  refine v_iload_n (j := 0) dL_law_873 rfl rfl ?_
  refine v_iconst dL_law_874 ?_
  refine v_iadd dL_law_875 ?_
  refine v_sld dL_law_876 (by omega) (by omega) ?_
  refine v_aload_n (j := 3) dL_law_877 rfl rfl ?_
  refine v_iload_n (j := 0) dL_law_878 rfl rfl ?_
  refine v_iconst dL_law_879 ?_
  refine v_iadd dL_law_880 ?_
  refine v_sld dL_law_881 (by omega) (by omega) ?_
  refine v_call2i (i := 0) (ci := 8) (As := [.int (iI (sx xs (i + 1).toNat)), .int (iI (sx xs (i + 2).toNat)), .int (iI (sx xs (i + 3).toNat))]) (rest := [.int (iI e1)]) (c_X8_sheet hqm hMO (sx_rng _ _) (sx_rng _ _) (sx_rng _ _)) dL_law_882 gL_law_X8_sheet rfl cd_X8_sheet ⟨Nat.le_of_ble_eq_true rfl, Nat.le_of_ble_eq_true rfl⟩ rfl rfl (by decide) rfl rfl rfl (Nat.le_of_ble_eq_true rfl) ⟨Nat.le_of_ble_eq_true rfl, Nat.le_of_ble_eq_true rfl⟩ (fun r2 g2 hp2 => ?_)
  obtain ⟨e2, mi', ma', he2, rfl, rfl⟩ := hp2
  obtain ⟨hs1, hXn⟩ := he1
  obtain ⟨hs2, hMn⟩ := he2
  rw [← hv] at hs2
  obtain ⟨hee, hvv⟩ := dt_sheet hs2 hs1
  have hvv := hvv.symm
  rw [hee]
  refine v_icmp_same (tgt := 1191) dL_law_885 (by decide) ?_
  exact kk w d xi' xa' mi' ma' hXn hMn hvv
theorem cd_X7_lose : yX7_lose.cls = RX7 ∧ yX7_lose.cls ≠ "java/lang/invoke/MethodHandle" ∧ yX7_lose.cls ≠ "java/lang/invoke/VarHandle" ∧ (parseMethodDescriptor yX7_lose.desc).map (fun d => d.parameters.length) = some 1 := ⟨rfl, by decide +kernel, by decide +kernel, by decide +kernel⟩
theorem cd_X8_lose : yX8_lose.cls = RX8 ∧ yX8_lose.cls ≠ "java/lang/invoke/MethodHandle" ∧ yX8_lose.cls ≠ "java/lang/invoke/VarHandle" ∧ (parseMethodDescriptor yX8_lose.desc).map (fun d => d.parameters.length) = some 1 := ⟨rfl, by decide +kernel, by decide +kernel, by decide +kernel⟩
set_option maxHeartbeats 4000000 in
set_option maxRecDepth 100000 in
theorem lc_lose {p : Program} {l : Launch} {e : Env} {s : State} {m : MethodId} {args : Array Value} {below : List Frame} {meth : Method} {c : Code} {Q : State → Prop} {D : va_G} {cI cJ cZ cR : ClassId} {qx qm : Nat → Nat} {b L : Nat} {xs : Nat → Int32} {w d : Nat} {xi : Nat → Int} {xa : Nat → Nat → Int} {mi : Nat → Int} {ma : Nat → Nat → Int} {i : Int} (hqx : qOk 31 qx) (hqm : qOk 18 qm) (hXO : XOk w d xi xa) (hMO : MOk mi ma) (hv : vX w xi xa = vM mi ma) (hi : 0 ≤ i ∧ i + 7 ≤ (L : Int)) (kk : ∀ (w' d' : Nat) (xi' : Nat → Int) (xa' : Nat → Nat → Int) (mi' : Nat → Int) (ma' : Nat → Nat → Int), XOk w' d' xi' xa' → MOk mi' ma' → vX w' xi' xa' = vM mi' ma' → VV p l e room_1 s m args below meth c Q 49 3256 cL_law 4 RL wsL_law D vwCl (tysC cI cJ cZ cR) 31 qx 18 qm b L xs (cX cI cJ cZ cR qx w' d' xi' xa') (cM cI cJ cZ qm mi' ma') 1191 [(3, .int (iI i)), (2, .ref (qm 0)), (1, .ref (qx 0)), (0, .ref b)] []) : VV p l e room_1 s m args below meth c Q 49 3256 cL_law 4 RL wsL_law D vwCl (tysC cI cJ cZ cR) 31 qx 18 qm b L xs (cX cI cJ cZ cR qx w d xi xa) (cM cI cJ cZ qm mi ma) 890 [(3, .int (iI i)), (2, .ref (qm 0)), (1, .ref (qx 0)), (0, .ref b)] [] := by
  refine v_aload_n (j := 2) dL_law_890 rfl rfl ?_
  refine v_aload_n (j := 3) dL_law_891 rfl rfl ?_
  refine v_iload_n (j := 0) dL_law_892 rfl rfl ?_
  refine v_iconst dL_law_893 ?_
  refine v_iadd dL_law_894 ?_
  refine v_sld dL_law_895 (by omega) (by omega) ?_
  refine v_call1i (i := 0) (ci := 7) (As := [.int (iI (sx xs (i + 1).toNat))]) (rest := []) (c_X7_lose hqx hXO (sx_rng _ _)) dL_law_896 gL_law_X7_lose rfl cd_X7_lose ⟨Nat.le_of_ble_eq_true rfl, Nat.le_of_ble_eq_true rfl⟩ rfl rfl (by decide) rfl rfl rfl (Nat.le_of_ble_eq_true rfl) ⟨Nat.le_of_ble_eq_true rfl, Nat.le_of_ble_eq_true rfl⟩ (fun r1 g1 hp1 => ?_)
  obtain ⟨e1, xi', xa', he1, rfl, rfl⟩ := hp1
  refine v_aload_n (j := 1) dL_law_899 rfl rfl ?_
  refine v_aload_n (j := 3) dL_law_900 rfl rfl ?_
  refine v_iload_n (j := 0) dL_law_901 rfl rfl ?_
  refine v_iconst dL_law_902 ?_
  refine v_iadd dL_law_903 ?_
  refine v_sld dL_law_904 (by omega) (by omega) ?_
  refine v_call2i (i := 0) (ci := 8) (As := [.int (iI (sx xs (i + 1).toNat))]) (rest := [.int (iI e1)]) (c_X8_lose hqm hMO (sx_rng _ _)) dL_law_905 gL_law_X8_lose rfl cd_X8_lose ⟨Nat.le_of_ble_eq_true rfl, Nat.le_of_ble_eq_true rfl⟩ rfl rfl (by decide) rfl rfl rfl (Nat.le_of_ble_eq_true rfl) ⟨Nat.le_of_ble_eq_true rfl, Nat.le_of_ble_eq_true rfl⟩ (fun r2 g2 hp2 => ?_)
  obtain ⟨e2, ma', he2, rfl, rfl⟩ := hp2
  obtain ⟨hs1, hXn⟩ := he1
  obtain ⟨hs2, hMn⟩ := he2
  rw [← hv] at hs2
  obtain ⟨hee, hvv⟩ := dt_lose hs2 hs1
  have hvv := hvv.symm
  rw [hee]
  refine v_icmp_same (tgt := 1191) dL_law_908 (by decide) ?_
  exact kk w d xi' xa' mi ma' hXn hMn hvv
theorem cd_X7_put : yX7_put.cls = RX7 ∧ yX7_put.cls ≠ "java/lang/invoke/MethodHandle" ∧ yX7_put.cls ≠ "java/lang/invoke/VarHandle" ∧ (parseMethodDescriptor yX7_put.desc).map (fun d => d.parameters.length) = some 3 := ⟨rfl, by decide +kernel, by decide +kernel, by decide +kernel⟩
theorem cd_X8_put : yX8_put.cls = RX8 ∧ yX8_put.cls ≠ "java/lang/invoke/MethodHandle" ∧ yX8_put.cls ≠ "java/lang/invoke/VarHandle" ∧ (parseMethodDescriptor yX8_put.desc).map (fun d => d.parameters.length) = some 3 := ⟨rfl, by decide +kernel, by decide +kernel, by decide +kernel⟩
set_option maxHeartbeats 4000000 in
set_option maxRecDepth 100000 in
theorem lc_put {p : Program} {l : Launch} {e : Env} {s : State} {m : MethodId} {args : Array Value} {below : List Frame} {meth : Method} {c : Code} {Q : State → Prop} {D : va_G} {cI cJ cZ cR : ClassId} {qx qm : Nat → Nat} {b L : Nat} {xs : Nat → Int32} {w d : Nat} {xi : Nat → Int} {xa : Nat → Nat → Int} {mi : Nat → Int} {ma : Nat → Nat → Int} {i : Int} (hqx : qOk 31 qx) (hqm : qOk 18 qm) (hXO : XOk w d xi xa) (hMO : MOk mi ma) (hv : vX w xi xa = vM mi ma) (hi : 0 ≤ i ∧ i + 7 ≤ (L : Int)) (kk : ∀ (w' d' : Nat) (xi' : Nat → Int) (xa' : Nat → Nat → Int) (mi' : Nat → Int) (ma' : Nat → Nat → Int), XOk w' d' xi' xa' → MOk mi' ma' → vX w' xi' xa' = vM mi' ma' → VV p l e room_1 s m args below meth c Q 49 3256 cL_law 4 RL wsL_law D vwCl (tysC cI cJ cZ cR) 31 qx 18 qm b L xs (cX cI cJ cZ cR qx w' d' xi' xa') (cM cI cJ cZ qm mi' ma') 1191 [(3, .int (iI i)), (2, .ref (qm 0)), (1, .ref (qx 0)), (0, .ref b)] []) : VV p l e room_1 s m args below meth c Q 49 3256 cL_law 4 RL wsL_law D vwCl (tysC cI cJ cZ cR) 31 qx 18 qm b L xs (cX cI cJ cZ cR qx w d xi xa) (cM cI cJ cZ qm mi ma) 913 [(3, .int (iI i)), (2, .ref (qm 0)), (1, .ref (qx 0)), (0, .ref b)] [] := by
  refine v_aload_n (j := 2) dL_law_913 rfl rfl ?_
  refine v_aload_n (j := 3) dL_law_914 rfl rfl ?_
  refine v_iload_n (j := 0) dL_law_915 rfl rfl ?_
  refine v_iconst dL_law_916 ?_
  refine v_iadd dL_law_917 ?_
  refine v_sld dL_law_918 (by omega) (by omega) ?_
  refine v_aload_n (j := 3) dL_law_919 rfl rfl ?_
  refine v_iload_n (j := 0) dL_law_920 rfl rfl ?_
  refine v_iconst dL_law_921 ?_
  refine v_iadd dL_law_922 ?_
  refine v_sld dL_law_923 (by omega) (by omega) ?_
  refine v_aload_n (j := 3) dL_law_924 rfl rfl ?_
  refine v_iload_n (j := 0) dL_law_925 rfl rfl ?_
  refine v_iconst dL_law_926 ?_
  refine v_iadd dL_law_927 ?_
  refine v_sld dL_law_928 (by omega) (by omega) ?_
  refine v_call1i (i := 0) (ci := 7) (As := [.int (iI (sx xs (i + 1).toNat)), .int (iI (sx xs (i + 2).toNat)), .int (iI (sx xs (i + 3).toNat))]) (rest := []) (c_X7_put hqx hXO (sx_rng _ _) (sx_rng _ _) (sx_rng _ _)) dL_law_929 gL_law_X7_put rfl cd_X7_put ⟨Nat.le_of_ble_eq_true rfl, Nat.le_of_ble_eq_true rfl⟩ rfl rfl (by decide) rfl rfl rfl (Nat.le_of_ble_eq_true rfl) ⟨Nat.le_of_ble_eq_true rfl, Nat.le_of_ble_eq_true rfl⟩ (fun r1 g1 hp1 => ?_)
  obtain ⟨e1, xi', xa', he1, rfl, rfl⟩ := hp1
  refine v_aload_n (j := 1) dL_law_932 rfl rfl ?_
  refine v_aload_n (j := 3) dL_law_933 rfl rfl ?_
  refine v_iload_n (j := 0) dL_law_934 rfl rfl ?_
  refine v_iconst dL_law_935 ?_
  refine v_iadd dL_law_936 ?_
  refine v_sld dL_law_937 (by omega) (by omega) ?_
  refine v_aload_n (j := 3) dL_law_938 rfl rfl ?_
  refine v_iload_n (j := 0) dL_law_939 rfl rfl ?_
  refine v_iconst dL_law_940 ?_
  refine v_iadd dL_law_941 ?_
  refine v_sld dL_law_942 (by omega) (by omega) ?_
  refine v_aload_n (j := 3) dL_law_943 rfl rfl ?_
  refine v_iload_n (j := 0) dL_law_944 rfl rfl ?_
  refine v_iconst dL_law_945 ?_
  refine v_iadd dL_law_946 ?_
  refine v_sld dL_law_947 (by omega) (by omega) ?_
  refine v_call2i (i := 0) (ci := 8) (As := [.int (iI (sx xs (i + 1).toNat)), .int (iI (sx xs (i + 2).toNat)), .int (iI (sx xs (i + 3).toNat))]) (rest := [.int (iI e1)]) (c_X8_put hqm hMO (sx_rng _ _) (sx_rng _ _) (sx_rng _ _)) dL_law_948 gL_law_X8_put rfl cd_X8_put ⟨Nat.le_of_ble_eq_true rfl, Nat.le_of_ble_eq_true rfl⟩ rfl rfl (by decide) rfl rfl rfl (Nat.le_of_ble_eq_true rfl) ⟨Nat.le_of_ble_eq_true rfl, Nat.le_of_ble_eq_true rfl⟩ (fun r2 g2 hp2 => ?_)
  obtain ⟨e2, mi', ma', he2, rfl, rfl⟩ := hp2
  obtain ⟨hs1, hXn⟩ := he1
  obtain ⟨hs2, hMn⟩ := he2
  rw [← hv] at hs2
  obtain ⟨hee, hvv⟩ := dt_put hs2 hs1
  have hvv := hvv.symm
  rw [hee]
  refine v_icmp_same (tgt := 1191) dL_law_951 (by decide) ?_
  exact kk w d xi' xa' mi' ma' hXn hMn hvv
theorem cd_X7_cell : yX7_cell.cls = RX7 ∧ yX7_cell.cls ≠ "java/lang/invoke/MethodHandle" ∧ yX7_cell.cls ≠ "java/lang/invoke/VarHandle" ∧ (parseMethodDescriptor yX7_cell.desc).map (fun d => d.parameters.length) = some 3 := ⟨rfl, by decide +kernel, by decide +kernel, by decide +kernel⟩
theorem cd_X8_cell : yX8_cell.cls = RX8 ∧ yX8_cell.cls ≠ "java/lang/invoke/MethodHandle" ∧ yX8_cell.cls ≠ "java/lang/invoke/VarHandle" ∧ (parseMethodDescriptor yX8_cell.desc).map (fun d => d.parameters.length) = some 3 := ⟨rfl, by decide +kernel, by decide +kernel, by decide +kernel⟩
set_option maxHeartbeats 4000000 in
set_option maxRecDepth 100000 in
theorem lc_cell {p : Program} {l : Launch} {e : Env} {s : State} {m : MethodId} {args : Array Value} {below : List Frame} {meth : Method} {c : Code} {Q : State → Prop} {D : va_G} {cI cJ cZ cR : ClassId} {qx qm : Nat → Nat} {b L : Nat} {xs : Nat → Int32} {w d : Nat} {xi : Nat → Int} {xa : Nat → Nat → Int} {mi : Nat → Int} {ma : Nat → Nat → Int} {i : Int} (hqx : qOk 31 qx) (hqm : qOk 18 qm) (hXO : XOk w d xi xa) (hMO : MOk mi ma) (hv : vX w xi xa = vM mi ma) (hi : 0 ≤ i ∧ i + 7 ≤ (L : Int)) (kk : ∀ (w' d' : Nat) (xi' : Nat → Int) (xa' : Nat → Nat → Int) (mi' : Nat → Int) (ma' : Nat → Nat → Int), XOk w' d' xi' xa' → MOk mi' ma' → vX w' xi' xa' = vM mi' ma' → VV p l e room_1 s m args below meth c Q 49 3256 cL_law 4 RL wsL_law D vwCl (tysC cI cJ cZ cR) 31 qx 18 qm b L xs (cX cI cJ cZ cR qx w' d' xi' xa') (cM cI cJ cZ qm mi' ma') 1191 [(3, .int (iI i)), (2, .ref (qm 0)), (1, .ref (qx 0)), (0, .ref b)] []) : VV p l e room_1 s m args below meth c Q 49 3256 cL_law 4 RL wsL_law D vwCl (tysC cI cJ cZ cR) 31 qx 18 qm b L xs (cX cI cJ cZ cR qx w d xi xa) (cM cI cJ cZ qm mi ma) 956 [(3, .int (iI i)), (2, .ref (qm 0)), (1, .ref (qx 0)), (0, .ref b)] [] := by
  refine v_aload_n (j := 2) dL_law_956 rfl rfl ?_
  refine v_aload_n (j := 3) dL_law_957 rfl rfl ?_
  refine v_iload_n (j := 0) dL_law_958 rfl rfl ?_
  refine v_iconst dL_law_959 ?_
  refine v_iadd dL_law_960 ?_
  refine v_sld dL_law_961 (by omega) (by omega) ?_
  refine v_aload_n (j := 3) dL_law_962 rfl rfl ?_
  refine v_iload_n (j := 0) dL_law_963 rfl rfl ?_
  refine v_iconst dL_law_964 ?_
  refine v_iadd dL_law_965 ?_
  refine v_sld dL_law_966 (by omega) (by omega) ?_
  refine v_aload_n (j := 3) dL_law_967 rfl rfl ?_
  refine v_iload_n (j := 0) dL_law_968 rfl rfl ?_
  refine v_iconst dL_law_969 ?_
  refine v_iadd dL_law_970 ?_
  refine v_sld dL_law_971 (by omega) (by omega) ?_
  refine v_call1l (i := 0) (ci := 7) (As := [.int (iI (sx xs (i + 1).toNat)), .int (iI (sx xs (i + 2).toNat)), .int (iI (sx xs (i + 3).toNat))]) (rest := []) (c_X7_cell hqx hXO (sx_rng _ _) (sx_rng _ _) (sx_rng _ _)) dL_law_972 gL_law_X7_cell rfl cd_X7_cell ⟨Nat.le_of_ble_eq_true rfl, Nat.le_of_ble_eq_true rfl⟩ rfl rfl (by decide) rfl rfl rfl (Nat.le_of_ble_eq_true rfl) ⟨Nat.le_of_ble_eq_true rfl, Nat.le_of_ble_eq_true rfl⟩ (fun r1 g1 hp1 => ?_)
  obtain ⟨e1, xi', he1, rfl, rfl⟩ := hp1
  refine v_aload_n (j := 1) dL_law_975 rfl rfl ?_
  refine v_aload_n (j := 3) dL_law_976 rfl rfl ?_
  refine v_iload_n (j := 0) dL_law_977 rfl rfl ?_
  refine v_iconst dL_law_978 ?_
  refine v_iadd dL_law_979 ?_
  refine v_sld dL_law_980 (by omega) (by omega) ?_
  refine v_aload_n (j := 3) dL_law_981 rfl rfl ?_
  refine v_iload_n (j := 0) dL_law_982 rfl rfl ?_
  refine v_iconst dL_law_983 ?_
  refine v_iadd dL_law_984 ?_
  refine v_sld dL_law_985 (by omega) (by omega) ?_
  refine v_aload_n (j := 3) dL_law_986 rfl rfl ?_
  refine v_iload_n (j := 0) dL_law_987 rfl rfl ?_
  refine v_iconst dL_law_988 ?_
  refine v_iadd dL_law_989 ?_
  refine v_sld dL_law_990 (by omega) (by omega) ?_
  refine v_call2l (i := 0) (ci := 8) (As := [.int (iI (sx xs (i + 1).toNat)), .int (iI (sx xs (i + 2).toNat)), .int (iI (sx xs (i + 3).toNat))]) (rest := [.long (lI e1)]) (c_X8_cell hqm hMO (sx_rng _ _) (sx_rng _ _) (sx_rng _ _)) dL_law_991 gL_law_X8_cell rfl cd_X8_cell ⟨Nat.le_of_ble_eq_true rfl, Nat.le_of_ble_eq_true rfl⟩ rfl rfl (by decide) rfl rfl rfl (Nat.le_of_ble_eq_true rfl) ⟨Nat.le_of_ble_eq_true rfl, Nat.le_of_ble_eq_true rfl⟩ (fun r2 g2 hp2 => ?_)
  obtain ⟨e2, mi', he2, rfl, rfl⟩ := hp2
  obtain ⟨hs1, hXn⟩ := he1
  obtain ⟨hs2, hMn⟩ := he2
  rw [← hv] at hs2
  obtain ⟨hee, hvv⟩ := dt_cell hs2 hs1
  have hvv := hvv.symm
  rw [hee]
  refine v_lcmp_same dL_law_994 ?_
  refine v_if_eq (tgt := 1191) dL_law_995 (by decide) (by decide) (fun _ => ?_) (fun h => absurd rfl h)
  exact kk w d xi' xa mi' ma hXn hMn hvv
theorem cd_X7_copy : yX7_copy.cls = RX7 ∧ yX7_copy.cls ≠ "java/lang/invoke/MethodHandle" ∧ yX7_copy.cls ≠ "java/lang/invoke/VarHandle" ∧ (parseMethodDescriptor yX7_copy.desc).map (fun d => d.parameters.length) = some 5 := ⟨rfl, by decide +kernel, by decide +kernel, by decide +kernel⟩
theorem cd_X8_copy : yX8_copy.cls = RX8 ∧ yX8_copy.cls ≠ "java/lang/invoke/MethodHandle" ∧ yX8_copy.cls ≠ "java/lang/invoke/VarHandle" ∧ (parseMethodDescriptor yX8_copy.desc).map (fun d => d.parameters.length) = some 5 := ⟨rfl, by decide +kernel, by decide +kernel, by decide +kernel⟩
set_option maxHeartbeats 4000000 in
set_option maxRecDepth 100000 in
theorem lc_copy {p : Program} {l : Launch} {e : Env} {s : State} {m : MethodId} {args : Array Value} {below : List Frame} {meth : Method} {c : Code} {Q : State → Prop} {D : va_G} {cI cJ cZ cR : ClassId} {qx qm : Nat → Nat} {b L : Nat} {xs : Nat → Int32} {w d : Nat} {xi : Nat → Int} {xa : Nat → Nat → Int} {mi : Nat → Int} {ma : Nat → Nat → Int} {i : Int} (hqx : qOk 31 qx) (hqm : qOk 18 qm) (hXO : XOk w d xi xa) (hMO : MOk mi ma) (hv : vX w xi xa = vM mi ma) (hi : 0 ≤ i ∧ i + 7 ≤ (L : Int)) (kk : ∀ (w' d' : Nat) (xi' : Nat → Int) (xa' : Nat → Nat → Int) (mi' : Nat → Int) (ma' : Nat → Nat → Int), XOk w' d' xi' xa' → MOk mi' ma' → vX w' xi' xa' = vM mi' ma' → VV p l e room_1 s m args below meth c Q 49 3256 cL_law 4 RL wsL_law D vwCl (tysC cI cJ cZ cR) 31 qx 18 qm b L xs (cX cI cJ cZ cR qx w' d' xi' xa') (cM cI cJ cZ qm mi' ma') 1191 [(3, .int (iI i)), (2, .ref (qm 0)), (1, .ref (qx 0)), (0, .ref b)] []) : VV p l e room_1 s m args below meth c Q 49 3256 cL_law 4 RL wsL_law D vwCl (tysC cI cJ cZ cR) 31 qx 18 qm b L xs (cX cI cJ cZ cR qx w d xi xa) (cM cI cJ cZ qm mi ma) 1000 [(3, .int (iI i)), (2, .ref (qm 0)), (1, .ref (qx 0)), (0, .ref b)] [] := by
  refine v_aload_n (j := 2) dL_law_1000 rfl rfl ?_
  refine v_aload_n (j := 3) dL_law_1001 rfl rfl ?_
  refine v_iload_n (j := 0) dL_law_1002 rfl rfl ?_
  refine v_iconst dL_law_1003 ?_
  refine v_iadd dL_law_1004 ?_
  refine v_sld dL_law_1005 (by omega) (by omega) ?_
  refine v_aload_n (j := 3) dL_law_1006 rfl rfl ?_
  refine v_iload_n (j := 0) dL_law_1007 rfl rfl ?_
  refine v_iconst dL_law_1008 ?_
  refine v_iadd dL_law_1009 ?_
  refine v_sld dL_law_1010 (by omega) (by omega) ?_
  refine v_aload_n (j := 3) dL_law_1011 rfl rfl ?_
  refine v_iload_n (j := 0) dL_law_1012 rfl rfl ?_
  refine v_iconst dL_law_1013 ?_
  refine v_iadd dL_law_1014 ?_
  refine v_sld dL_law_1015 (by omega) (by omega) ?_
  refine v_aload_n (j := 3) dL_law_1016 rfl rfl ?_
  refine v_iload_n (j := 0) dL_law_1017 rfl rfl ?_
  refine v_iconst dL_law_1018 ?_
  refine v_iadd dL_law_1019 ?_
  refine v_sld dL_law_1020 (by omega) (by omega) ?_
  refine v_aload_n (j := 3) dL_law_1021 rfl rfl ?_
  refine v_iload_n (j := 0) dL_law_1022 rfl rfl ?_
  refine v_iconst dL_law_1023 ?_
  refine v_iadd dL_law_1024 ?_
  refine v_sld dL_law_1025 (by omega) (by omega) ?_
  refine v_call1i (i := 0) (ci := 7) (As := [.int (iI (sx xs (i + 1).toNat)), .int (iI (sx xs (i + 2).toNat)), .int (iI (sx xs (i + 3).toNat)), .int (iI (sx xs (i + 4).toNat)), .int (iI (sx xs (i + 5).toNat))]) (rest := []) (c_X7_copy hqx hXO (sx_rng _ _) (sx_rng _ _) (sx_rng _ _) (sx_rng _ _) (sx_rng _ _)) dL_law_1026 gL_law_X7_copy rfl cd_X7_copy ⟨Nat.le_of_ble_eq_true rfl, Nat.le_of_ble_eq_true rfl⟩ rfl rfl (by decide) rfl rfl rfl (Nat.le_of_ble_eq_true rfl) ⟨Nat.le_of_ble_eq_true rfl, Nat.le_of_ble_eq_true rfl⟩ (fun r1 g1 hp1 => ?_)
  obtain ⟨e1, xi', xa', he1, rfl, rfl⟩ := hp1
  refine v_aload_n (j := 1) dL_law_1029 rfl rfl ?_
  refine v_aload_n (j := 3) dL_law_1030 rfl rfl ?_
  refine v_iload_n (j := 0) dL_law_1031 rfl rfl ?_
  refine v_iconst dL_law_1032 ?_
  refine v_iadd dL_law_1033 ?_
  refine v_sld dL_law_1034 (by omega) (by omega) ?_
  refine v_aload_n (j := 3) dL_law_1035 rfl rfl ?_
  refine v_iload_n (j := 0) dL_law_1036 rfl rfl ?_
  refine v_iconst dL_law_1037 ?_
  refine v_iadd dL_law_1038 ?_
  refine v_sld dL_law_1039 (by omega) (by omega) ?_
  refine v_aload_n (j := 3) dL_law_1040 rfl rfl ?_
  refine v_iload_n (j := 0) dL_law_1041 rfl rfl ?_
  refine v_iconst dL_law_1042 ?_
  refine v_iadd dL_law_1043 ?_
  refine v_sld dL_law_1044 (by omega) (by omega) ?_
  refine v_aload_n (j := 3) dL_law_1045 rfl rfl ?_
  refine v_iload_n (j := 0) dL_law_1046 rfl rfl ?_
  refine v_iconst dL_law_1047 ?_
  refine v_iadd dL_law_1048 ?_
  refine v_sld dL_law_1049 (by omega) (by omega) ?_
  refine v_aload_n (j := 3) dL_law_1050 rfl rfl ?_
  refine v_iload_n (j := 0) dL_law_1051 rfl rfl ?_
  refine v_iconst dL_law_1052 ?_
  refine v_iadd dL_law_1053 ?_
  refine v_sld dL_law_1054 (by omega) (by omega) ?_
  refine v_call2i (i := 0) (ci := 8) (As := [.int (iI (sx xs (i + 1).toNat)), .int (iI (sx xs (i + 2).toNat)), .int (iI (sx xs (i + 3).toNat)), .int (iI (sx xs (i + 4).toNat)), .int (iI (sx xs (i + 5).toNat))]) (rest := [.int (iI e1)]) (c_X8_copy hqm hMO (sx_rng _ _) (sx_rng _ _) (sx_rng _ _) (sx_rng _ _) (sx_rng _ _)) dL_law_1055 gL_law_X8_copy rfl cd_X8_copy ⟨Nat.le_of_ble_eq_true rfl, Nat.le_of_ble_eq_true rfl⟩ rfl rfl (by decide) rfl rfl rfl (Nat.le_of_ble_eq_true rfl) ⟨Nat.le_of_ble_eq_true rfl, Nat.le_of_ble_eq_true rfl⟩ (fun r2 g2 hp2 => ?_)
  obtain ⟨e2, mi', ma', he2, rfl, rfl⟩ := hp2
  obtain ⟨hs1, hXn⟩ := he1
  obtain ⟨hs2, hMn⟩ := he2
  rw [← hv] at hs2
  obtain ⟨hee, hvv⟩ := dt_copy hs2 hs1
  have hvv := hvv.symm
  rw [hee]
  refine v_icmp_same (tgt := 1191) dL_law_1058 (by decide) ?_
  exact kk w d xi' xa' mi' ma' hXn hMn hvv
theorem cd_X7_tell : yX7_tell.cls = RX7 ∧ yX7_tell.cls ≠ "java/lang/invoke/MethodHandle" ∧ yX7_tell.cls ≠ "java/lang/invoke/VarHandle" ∧ (parseMethodDescriptor yX7_tell.desc).map (fun d => d.parameters.length) = some 1 := ⟨rfl, by decide +kernel, by decide +kernel, by decide +kernel⟩
theorem cd_X8_tell : yX8_tell.cls = RX8 ∧ yX8_tell.cls ≠ "java/lang/invoke/MethodHandle" ∧ yX8_tell.cls ≠ "java/lang/invoke/VarHandle" ∧ (parseMethodDescriptor yX8_tell.desc).map (fun d => d.parameters.length) = some 1 := ⟨rfl, by decide +kernel, by decide +kernel, by decide +kernel⟩
set_option maxHeartbeats 4000000 in
set_option maxRecDepth 100000 in
theorem lc_tell {p : Program} {l : Launch} {e : Env} {s : State} {m : MethodId} {args : Array Value} {below : List Frame} {meth : Method} {c : Code} {Q : State → Prop} {D : va_G} {cI cJ cZ cR : ClassId} {qx qm : Nat → Nat} {b L : Nat} {xs : Nat → Int32} {w d : Nat} {xi : Nat → Int} {xa : Nat → Nat → Int} {mi : Nat → Int} {ma : Nat → Nat → Int} {i : Int} (hqx : qOk 31 qx) (hqm : qOk 18 qm) (hXO : XOk w d xi xa) (hMO : MOk mi ma) (hv : vX w xi xa = vM mi ma) (hi : 0 ≤ i ∧ i + 7 ≤ (L : Int)) (kk : ∀ (w' d' : Nat) (xi' : Nat → Int) (xa' : Nat → Nat → Int) (mi' : Nat → Int) (ma' : Nat → Nat → Int), XOk w' d' xi' xa' → MOk mi' ma' → vX w' xi' xa' = vM mi' ma' → VV p l e room_1 s m args below meth c Q 49 3256 cL_law 4 RL wsL_law D vwCl (tysC cI cJ cZ cR) 31 qx 18 qm b L xs (cX cI cJ cZ cR qx w' d' xi' xa') (cM cI cJ cZ qm mi' ma') 1191 [(3, .int (iI i)), (2, .ref (qm 0)), (1, .ref (qx 0)), (0, .ref b)] []) : VV p l e room_1 s m args below meth c Q 49 3256 cL_law 4 RL wsL_law D vwCl (tysC cI cJ cZ cR) 31 qx 18 qm b L xs (cX cI cJ cZ cR qx w d xi xa) (cM cI cJ cZ qm mi ma) 1063 [(3, .int (iI i)), (2, .ref (qm 0)), (1, .ref (qx 0)), (0, .ref b)] [] := by
  refine v_aload_n (j := 2) dL_law_1063 rfl rfl ?_
  refine v_aload_n (j := 3) dL_law_1064 rfl rfl ?_
  refine v_iload_n (j := 0) dL_law_1065 rfl rfl ?_
  refine v_iconst dL_law_1066 ?_
  refine v_iadd dL_law_1067 ?_
  refine v_sld dL_law_1068 (by omega) (by omega) ?_
  refine v_call1i (i := 0) (ci := 7) (As := [.int (iI (sx xs (i + 1).toNat))]) (rest := []) (c_X7_tell hqx hXO (sx_rng _ _)) dL_law_1069 gL_law_X7_tell rfl cd_X7_tell ⟨Nat.le_of_ble_eq_true rfl, Nat.le_of_ble_eq_true rfl⟩ rfl rfl (by decide) rfl rfl rfl (Nat.le_of_ble_eq_true rfl) ⟨Nat.le_of_ble_eq_true rfl, Nat.le_of_ble_eq_true rfl⟩ (fun r1 g1 hp1 => ?_)
  obtain ⟨e1, xi', he1, rfl, rfl⟩ := hp1
  refine v_aload_n (j := 1) dL_law_1072 rfl rfl ?_
  refine v_aload_n (j := 3) dL_law_1073 rfl rfl ?_
  refine v_iload_n (j := 0) dL_law_1074 rfl rfl ?_
  refine v_iconst dL_law_1075 ?_
  refine v_iadd dL_law_1076 ?_
  refine v_sld dL_law_1077 (by omega) (by omega) ?_
  refine v_call2i (i := 0) (ci := 8) (As := [.int (iI (sx xs (i + 1).toNat))]) (rest := [.int (iI e1)]) (c_X8_tell hqm hMO (sx_rng _ _)) dL_law_1078 gL_law_X8_tell rfl cd_X8_tell ⟨Nat.le_of_ble_eq_true rfl, Nat.le_of_ble_eq_true rfl⟩ rfl rfl (by decide) rfl rfl rfl (Nat.le_of_ble_eq_true rfl) ⟨Nat.le_of_ble_eq_true rfl, Nat.le_of_ble_eq_true rfl⟩ (fun r2 g2 hp2 => ?_)
  obtain ⟨e2, mi', he2, rfl, rfl⟩ := hp2
  obtain ⟨hs1, hXn⟩ := he1
  obtain ⟨hs2, hMn⟩ := he2
  rw [← hv] at hs2
  obtain ⟨hee, hvv⟩ := dt_tell hs2 hs1
  have hvv := hvv.symm
  rw [hee]
  refine v_icmp_same (tgt := 1191) dL_law_1081 (by decide) ?_
  exact kk w d xi' xa mi' ma hXn hMn hvv
theorem cd_X7_sound : yX7_sound.cls = RX7 ∧ yX7_sound.cls ≠ "java/lang/invoke/MethodHandle" ∧ yX7_sound.cls ≠ "java/lang/invoke/VarHandle" ∧ (parseMethodDescriptor yX7_sound.desc).map (fun d => d.parameters.length) = some 1 := ⟨rfl, by decide +kernel, by decide +kernel, by decide +kernel⟩
theorem cd_X8_sound : yX8_sound.cls = RX8 ∧ yX8_sound.cls ≠ "java/lang/invoke/MethodHandle" ∧ yX8_sound.cls ≠ "java/lang/invoke/VarHandle" ∧ (parseMethodDescriptor yX8_sound.desc).map (fun d => d.parameters.length) = some 1 := ⟨rfl, by decide +kernel, by decide +kernel, by decide +kernel⟩
set_option maxHeartbeats 4000000 in
set_option maxRecDepth 100000 in
theorem lc_sound {p : Program} {l : Launch} {e : Env} {s : State} {m : MethodId} {args : Array Value} {below : List Frame} {meth : Method} {c : Code} {Q : State → Prop} {D : va_G} {cI cJ cZ cR : ClassId} {qx qm : Nat → Nat} {b L : Nat} {xs : Nat → Int32} {w d : Nat} {xi : Nat → Int} {xa : Nat → Nat → Int} {mi : Nat → Int} {ma : Nat → Nat → Int} {i : Int} (hqx : qOk 31 qx) (hqm : qOk 18 qm) (hXO : XOk w d xi xa) (hMO : MOk mi ma) (hv : vX w xi xa = vM mi ma) (hi : 0 ≤ i ∧ i + 7 ≤ (L : Int)) (kk : ∀ (w' d' : Nat) (xi' : Nat → Int) (xa' : Nat → Nat → Int) (mi' : Nat → Int) (ma' : Nat → Nat → Int), XOk w' d' xi' xa' → MOk mi' ma' → vX w' xi' xa' = vM mi' ma' → VV p l e room_1 s m args below meth c Q 49 3256 cL_law 4 RL wsL_law D vwCl (tysC cI cJ cZ cR) 31 qx 18 qm b L xs (cX cI cJ cZ cR qx w' d' xi' xa') (cM cI cJ cZ qm mi' ma') 1191 [(3, .int (iI i)), (2, .ref (qm 0)), (1, .ref (qx 0)), (0, .ref b)] []) : VV p l e room_1 s m args below meth c Q 49 3256 cL_law 4 RL wsL_law D vwCl (tysC cI cJ cZ cR) 31 qx 18 qm b L xs (cX cI cJ cZ cR qx w d xi xa) (cM cI cJ cZ qm mi ma) 1086 [(3, .int (iI i)), (2, .ref (qm 0)), (1, .ref (qx 0)), (0, .ref b)] [] := by
  refine v_aload_n (j := 2) dL_law_1086 rfl rfl ?_
  refine v_aload_n (j := 3) dL_law_1087 rfl rfl ?_
  refine v_iload_n (j := 0) dL_law_1088 rfl rfl ?_
  refine v_iconst dL_law_1089 ?_
  refine v_iadd dL_law_1090 ?_
  refine v_sld dL_law_1091 (by omega) (by omega) ?_
  refine v_call1i (i := 0) (ci := 7) (As := [.int (iI (sx xs (i + 1).toNat))]) (rest := []) (c_X7_sound hqx hXO (sx_rng _ _)) dL_law_1092 gL_law_X7_sound rfl cd_X7_sound ⟨Nat.le_of_ble_eq_true rfl, Nat.le_of_ble_eq_true rfl⟩ rfl rfl (by decide) rfl rfl rfl (Nat.le_of_ble_eq_true rfl) ⟨Nat.le_of_ble_eq_true rfl, Nat.le_of_ble_eq_true rfl⟩ (fun r1 g1 hp1 => ?_)
  obtain ⟨e1, xi', he1, rfl, rfl⟩ := hp1
  refine v_aload_n (j := 1) dL_law_1095 rfl rfl ?_
  refine v_aload_n (j := 3) dL_law_1096 rfl rfl ?_
  refine v_iload_n (j := 0) dL_law_1097 rfl rfl ?_
  refine v_iconst dL_law_1098 ?_
  refine v_iadd dL_law_1099 ?_
  refine v_sld dL_law_1100 (by omega) (by omega) ?_
  refine v_call2i (i := 0) (ci := 8) (As := [.int (iI (sx xs (i + 1).toNat))]) (rest := [.int (iI e1)]) (c_X8_sound hqm hMO (sx_rng _ _)) dL_law_1101 gL_law_X8_sound rfl cd_X8_sound ⟨Nat.le_of_ble_eq_true rfl, Nat.le_of_ble_eq_true rfl⟩ rfl rfl (by decide) rfl rfl rfl (Nat.le_of_ble_eq_true rfl) ⟨Nat.le_of_ble_eq_true rfl, Nat.le_of_ble_eq_true rfl⟩ (fun r2 g2 hp2 => ?_)
  obtain ⟨e2, mi', he2, rfl, rfl⟩ := hp2
  obtain ⟨hs1, hXn⟩ := he1
  obtain ⟨hs2, hMn⟩ := he2
  rw [← hv] at hs2
  obtain ⟨hee, hvv⟩ := dt_sound hs2 hs1
  have hvv := hvv.symm
  rw [hee]
  refine v_icmp_same (tgt := 1191) dL_law_1104 (by decide) ?_
  exact kk w d xi' xa mi' ma hXn hMn hvv
theorem cd_X7_as : yX7_as.cls = RX7 ∧ yX7_as.cls ≠ "java/lang/invoke/MethodHandle" ∧ yX7_as.cls ≠ "java/lang/invoke/VarHandle" ∧ (parseMethodDescriptor yX7_as.desc).map (fun d => d.parameters.length) = some 2 := ⟨rfl, by decide +kernel, by decide +kernel, by decide +kernel⟩
theorem cd_X8_as : yX8_as.cls = RX8 ∧ yX8_as.cls ≠ "java/lang/invoke/MethodHandle" ∧ yX8_as.cls ≠ "java/lang/invoke/VarHandle" ∧ (parseMethodDescriptor yX8_as.desc).map (fun d => d.parameters.length) = some 2 := ⟨rfl, by decide +kernel, by decide +kernel, by decide +kernel⟩
set_option maxHeartbeats 4000000 in
set_option maxRecDepth 100000 in
theorem lc_as {p : Program} {l : Launch} {e : Env} {s : State} {m : MethodId} {args : Array Value} {below : List Frame} {meth : Method} {c : Code} {Q : State → Prop} {D : va_G} {cI cJ cZ cR : ClassId} {qx qm : Nat → Nat} {b L : Nat} {xs : Nat → Int32} {w d : Nat} {xi : Nat → Int} {xa : Nat → Nat → Int} {mi : Nat → Int} {ma : Nat → Nat → Int} {i : Int} (hqx : qOk 31 qx) (hqm : qOk 18 qm) (hXO : XOk w d xi xa) (hMO : MOk mi ma) (hv : vX w xi xa = vM mi ma) (hi : 0 ≤ i ∧ i + 7 ≤ (L : Int)) (kk : ∀ (w' d' : Nat) (xi' : Nat → Int) (xa' : Nat → Nat → Int) (mi' : Nat → Int) (ma' : Nat → Nat → Int), XOk w' d' xi' xa' → MOk mi' ma' → vX w' xi' xa' = vM mi' ma' → VV p l e room_1 s m args below meth c Q 49 3256 cL_law 4 RL wsL_law D vwCl (tysC cI cJ cZ cR) 31 qx 18 qm b L xs (cX cI cJ cZ cR qx w' d' xi' xa') (cM cI cJ cZ qm mi' ma') 1191 [(3, .int (iI i)), (2, .ref (qm 0)), (1, .ref (qx 0)), (0, .ref b)] []) : VV p l e room_1 s m args below meth c Q 49 3256 cL_law 4 RL wsL_law D vwCl (tysC cI cJ cZ cR) 31 qx 18 qm b L xs (cX cI cJ cZ cR qx w d xi xa) (cM cI cJ cZ qm mi ma) 1109 [(3, .int (iI i)), (2, .ref (qm 0)), (1, .ref (qx 0)), (0, .ref b)] [] := by
  refine v_aload_n (j := 2) dL_law_1109 rfl rfl ?_
  refine v_aload_n (j := 3) dL_law_1110 rfl rfl ?_
  refine v_iload_n (j := 0) dL_law_1111 rfl rfl ?_
  refine v_iconst dL_law_1112 ?_
  refine v_iadd dL_law_1113 ?_
  refine v_sld dL_law_1114 (by omega) (by omega) ?_
  refine v_aload_n (j := 3) dL_law_1115 rfl rfl ?_
  refine v_iload_n (j := 0) dL_law_1116 rfl rfl ?_
  refine v_iconst dL_law_1117 ?_
  refine v_iadd dL_law_1118 ?_
  refine v_sld dL_law_1119 (by omega) (by omega) ?_
  refine v_call1i (i := 0) (ci := 7) (As := [.int (iI (sx xs (i + 1).toNat)), .int (iI (sx xs (i + 2).toNat))]) (rest := []) (c_X7_as hqx hXO (sx_rng _ _) (sx_rng _ _)) dL_law_1120 gL_law_X7_as rfl cd_X7_as ⟨Nat.le_of_ble_eq_true rfl, Nat.le_of_ble_eq_true rfl⟩ rfl rfl (by decide) rfl rfl rfl (Nat.le_of_ble_eq_true rfl) ⟨Nat.le_of_ble_eq_true rfl, Nat.le_of_ble_eq_true rfl⟩ (fun r1 g1 hp1 => ?_)
  obtain ⟨e1, xi', he1, rfl, rfl⟩ := hp1
  refine v_aload_n (j := 1) dL_law_1123 rfl rfl ?_
  refine v_aload_n (j := 3) dL_law_1124 rfl rfl ?_
  refine v_iload_n (j := 0) dL_law_1125 rfl rfl ?_
  refine v_iconst dL_law_1126 ?_
  refine v_iadd dL_law_1127 ?_
  refine v_sld dL_law_1128 (by omega) (by omega) ?_
  refine v_aload_n (j := 3) dL_law_1129 rfl rfl ?_
  refine v_iload_n (j := 0) dL_law_1130 rfl rfl ?_
  refine v_iconst dL_law_1131 ?_
  refine v_iadd dL_law_1132 ?_
  refine v_sld dL_law_1133 (by omega) (by omega) ?_
  refine v_call2i (i := 0) (ci := 8) (As := [.int (iI (sx xs (i + 1).toNat)), .int (iI (sx xs (i + 2).toNat))]) (rest := [.int (iI e1)]) (c_X8_as hqm hMO (sx_rng _ _) (sx_rng _ _)) dL_law_1134 gL_law_X8_as rfl cd_X8_as ⟨Nat.le_of_ble_eq_true rfl, Nat.le_of_ble_eq_true rfl⟩ rfl rfl (by decide) rfl rfl rfl (Nat.le_of_ble_eq_true rfl) ⟨Nat.le_of_ble_eq_true rfl, Nat.le_of_ble_eq_true rfl⟩ (fun r2 g2 hp2 => ?_)
  obtain ⟨e2, mi', he2, rfl, rfl⟩ := hp2
  obtain ⟨hs1, hXn⟩ := he1
  obtain ⟨hs2, hMn⟩ := he2
  rw [← hv] at hs2
  obtain ⟨hee, hvv⟩ := dt_as hs2 hs1
  have hvv := hvv.symm
  rw [hee]
  refine v_icmp_same (tgt := 1191) dL_law_1137 (by decide) ?_
  exact kk w d xi' xa mi' ma hXn hMn hvv
theorem cd_X7_trace : yX7_trace.cls = RX7 ∧ yX7_trace.cls ≠ "java/lang/invoke/MethodHandle" ∧ yX7_trace.cls ≠ "java/lang/invoke/VarHandle" ∧ (parseMethodDescriptor yX7_trace.desc).map (fun d => d.parameters.length) = some 0 := ⟨rfl, by decide +kernel, by decide +kernel, by decide +kernel⟩
theorem cd_X8_trace : yX8_trace.cls = RX8 ∧ yX8_trace.cls ≠ "java/lang/invoke/MethodHandle" ∧ yX8_trace.cls ≠ "java/lang/invoke/VarHandle" ∧ (parseMethodDescriptor yX8_trace.desc).map (fun d => d.parameters.length) = some 0 := ⟨rfl, by decide +kernel, by decide +kernel, by decide +kernel⟩
set_option maxHeartbeats 4000000 in
set_option maxRecDepth 100000 in
theorem lc_trace {p : Program} {l : Launch} {e : Env} {s : State} {m : MethodId} {args : Array Value} {below : List Frame} {meth : Method} {c : Code} {Q : State → Prop} {D : va_G} {cI cJ cZ cR : ClassId} {qx qm : Nat → Nat} {b L : Nat} {xs : Nat → Int32} {w d : Nat} {xi : Nat → Int} {xa : Nat → Nat → Int} {mi : Nat → Int} {ma : Nat → Nat → Int} {i : Int} (hqx : qOk 31 qx) (hqm : qOk 18 qm) (hXO : XOk w d xi xa) (hMO : MOk mi ma) (hv : vX w xi xa = vM mi ma) (hi : 0 ≤ i ∧ i + 7 ≤ (L : Int)) (kk : ∀ (w' d' : Nat) (xi' : Nat → Int) (xa' : Nat → Nat → Int) (mi' : Nat → Int) (ma' : Nat → Nat → Int), XOk w' d' xi' xa' → MOk mi' ma' → vX w' xi' xa' = vM mi' ma' → VV p l e room_1 s m args below meth c Q 49 3256 cL_law 4 RL wsL_law D vwCl (tysC cI cJ cZ cR) 31 qx 18 qm b L xs (cX cI cJ cZ cR qx w' d' xi' xa') (cM cI cJ cZ qm mi' ma') 1191 [(3, .int (iI i)), (2, .ref (qm 0)), (1, .ref (qx 0)), (0, .ref b)] []) : VV p l e room_1 s m args below meth c Q 49 3256 cL_law 4 RL wsL_law D vwCl (tysC cI cJ cZ cR) 31 qx 18 qm b L xs (cX cI cJ cZ cR qx w d xi xa) (cM cI cJ cZ qm mi ma) 1142 [(3, .int (iI i)), (2, .ref (qm 0)), (1, .ref (qx 0)), (0, .ref b)] [] := by
  refine v_aload_n (j := 2) dL_law_1142 rfl rfl ?_
  refine v_call1i (i := 0) (ci := 7) (As := []) (rest := []) (c_X7_trace hqx hXO) dL_law_1143 gL_law_X7_trace rfl cd_X7_trace ⟨Nat.le_of_ble_eq_true rfl, Nat.le_of_ble_eq_true rfl⟩ rfl rfl (by decide) rfl rfl rfl (Nat.le_of_ble_eq_true rfl) ⟨Nat.le_of_ble_eq_true rfl, Nat.le_of_ble_eq_true rfl⟩ (fun r1 g1 hp1 => ?_)
  obtain ⟨⟨e1, he1, rfl⟩, rfl⟩ := hp1
  refine v_aload_n (j := 1) dL_law_1146 rfl rfl ?_
  refine v_call2i (i := 0) (ci := 8) (As := []) (rest := [.int (iI e1)]) (c_X8_trace hqm ) dL_law_1147 gL_law_X8_trace rfl cd_X8_trace ⟨Nat.le_of_ble_eq_true rfl, Nat.le_of_ble_eq_true rfl⟩ rfl rfl (by decide) rfl rfl rfl (Nat.le_of_ble_eq_true rfl) ⟨Nat.le_of_ble_eq_true rfl, Nat.le_of_ble_eq_true rfl⟩ (fun r2 g2 hp2 => ?_)
  obtain ⟨⟨e2, he2, rfl⟩, rfl⟩ := hp2
  have hee : e2 = e1 := by rw [he1, he2, hv]
  have hvv := hv
  have hXn := hXO
  have hMn := hMO
  rw [hee]
  refine v_icmp_same (tgt := 1191) dL_law_1150 (by decide) ?_
  exact kk w d xi xa mi ma hXn hMn hvv
theorem cd_X7_fault : yX7_fault.cls = RX7 ∧ yX7_fault.cls ≠ "java/lang/invoke/MethodHandle" ∧ yX7_fault.cls ≠ "java/lang/invoke/VarHandle" ∧ (parseMethodDescriptor yX7_fault.desc).map (fun d => d.parameters.length) = some 0 := ⟨rfl, by decide +kernel, by decide +kernel, by decide +kernel⟩
theorem cd_X8_fault : yX8_fault.cls = RX8 ∧ yX8_fault.cls ≠ "java/lang/invoke/MethodHandle" ∧ yX8_fault.cls ≠ "java/lang/invoke/VarHandle" ∧ (parseMethodDescriptor yX8_fault.desc).map (fun d => d.parameters.length) = some 0 := ⟨rfl, by decide +kernel, by decide +kernel, by decide +kernel⟩
set_option maxHeartbeats 4000000 in
set_option maxRecDepth 100000 in
theorem lc_fault {p : Program} {l : Launch} {e : Env} {s : State} {m : MethodId} {args : Array Value} {below : List Frame} {meth : Method} {c : Code} {Q : State → Prop} {D : va_G} {cI cJ cZ cR : ClassId} {qx qm : Nat → Nat} {b L : Nat} {xs : Nat → Int32} {w d : Nat} {xi : Nat → Int} {xa : Nat → Nat → Int} {mi : Nat → Int} {ma : Nat → Nat → Int} {i : Int} (hqx : qOk 31 qx) (hqm : qOk 18 qm) (hXO : XOk w d xi xa) (hMO : MOk mi ma) (hv : vX w xi xa = vM mi ma) (hi : 0 ≤ i ∧ i + 7 ≤ (L : Int)) (kk : ∀ (w' d' : Nat) (xi' : Nat → Int) (xa' : Nat → Nat → Int) (mi' : Nat → Int) (ma' : Nat → Nat → Int), XOk w' d' xi' xa' → MOk mi' ma' → vX w' xi' xa' = vM mi' ma' → VV p l e room_1 s m args below meth c Q 49 3256 cL_law 4 RL wsL_law D vwCl (tysC cI cJ cZ cR) 31 qx 18 qm b L xs (cX cI cJ cZ cR qx w' d' xi' xa') (cM cI cJ cZ qm mi' ma') 1191 [(3, .int (iI i)), (2, .ref (qm 0)), (1, .ref (qx 0)), (0, .ref b)] []) : VV p l e room_1 s m args below meth c Q 49 3256 cL_law 4 RL wsL_law D vwCl (tysC cI cJ cZ cR) 31 qx 18 qm b L xs (cX cI cJ cZ cR qx w d xi xa) (cM cI cJ cZ qm mi ma) 1155 [(3, .int (iI i)), (2, .ref (qm 0)), (1, .ref (qx 0)), (0, .ref b)] [] := by
  refine v_aload_n (j := 2) dL_law_1155 rfl rfl ?_
  refine v_call1i (i := 0) (ci := 7) (As := []) (rest := []) (c_X7_fault hqx hXO) dL_law_1156 gL_law_X7_fault rfl cd_X7_fault ⟨Nat.le_of_ble_eq_true rfl, Nat.le_of_ble_eq_true rfl⟩ rfl rfl (by decide) rfl rfl rfl (Nat.le_of_ble_eq_true rfl) ⟨Nat.le_of_ble_eq_true rfl, Nat.le_of_ble_eq_true rfl⟩ (fun r1 g1 hp1 => ?_)
  obtain ⟨⟨e1, he1, rfl⟩, rfl⟩ := hp1
  refine v_aload_n (j := 1) dL_law_1159 rfl rfl ?_
  refine v_call2i (i := 0) (ci := 8) (As := []) (rest := [.int (iI e1)]) (c_X8_fault hqm ) dL_law_1160 gL_law_X8_fault rfl cd_X8_fault ⟨Nat.le_of_ble_eq_true rfl, Nat.le_of_ble_eq_true rfl⟩ rfl rfl (by decide) rfl rfl rfl (Nat.le_of_ble_eq_true rfl) ⟨Nat.le_of_ble_eq_true rfl, Nat.le_of_ble_eq_true rfl⟩ (fun r2 g2 hp2 => ?_)
  obtain ⟨⟨e2, he2, rfl⟩, rfl⟩ := hp2
  have hee : e2 = e1 := by rw [he1, he2, hv]
  have hvv := hv
  have hXn := hXO
  have hMn := hMO
  rw [hee]
  refine v_icmp_same (tgt := 1191) dL_law_1163 (by decide) ?_
  exact kk w d xi xa mi ma hXn hMn hvv
theorem cd_X7_many : yX7_many.cls = RX7 ∧ yX7_many.cls ≠ "java/lang/invoke/MethodHandle" ∧ yX7_many.cls ≠ "java/lang/invoke/VarHandle" ∧ (parseMethodDescriptor yX7_many.desc).map (fun d => d.parameters.length) = some 1 := ⟨rfl, by decide +kernel, by decide +kernel, by decide +kernel⟩
theorem cd_X8_many : yX8_many.cls = RX8 ∧ yX8_many.cls ≠ "java/lang/invoke/MethodHandle" ∧ yX8_many.cls ≠ "java/lang/invoke/VarHandle" ∧ (parseMethodDescriptor yX8_many.desc).map (fun d => d.parameters.length) = some 1 := ⟨rfl, by decide +kernel, by decide +kernel, by decide +kernel⟩
set_option maxHeartbeats 4000000 in
set_option maxRecDepth 100000 in
theorem lc_many {p : Program} {l : Launch} {e : Env} {s : State} {m : MethodId} {args : Array Value} {below : List Frame} {meth : Method} {c : Code} {Q : State → Prop} {D : va_G} {cI cJ cZ cR : ClassId} {qx qm : Nat → Nat} {b L : Nat} {xs : Nat → Int32} {w d : Nat} {xi : Nat → Int} {xa : Nat → Nat → Int} {mi : Nat → Int} {ma : Nat → Nat → Int} {i : Int} (hqx : qOk 31 qx) (hqm : qOk 18 qm) (hXO : XOk w d xi xa) (hMO : MOk mi ma) (hv : vX w xi xa = vM mi ma) (hi : 0 ≤ i ∧ i + 7 ≤ (L : Int)) (kk : ∀ (w' d' : Nat) (xi' : Nat → Int) (xa' : Nat → Nat → Int) (mi' : Nat → Int) (ma' : Nat → Nat → Int), XOk w' d' xi' xa' → MOk mi' ma' → vX w' xi' xa' = vM mi' ma' → VV p l e room_1 s m args below meth c Q 49 3256 cL_law 4 RL wsL_law D vwCl (tysC cI cJ cZ cR) 31 qx 18 qm b L xs (cX cI cJ cZ cR qx w' d' xi' xa') (cM cI cJ cZ qm mi' ma') 1191 [(3, .int (iI i)), (2, .ref (qm 0)), (1, .ref (qx 0)), (0, .ref b)] []) : VV p l e room_1 s m args below meth c Q 49 3256 cL_law 4 RL wsL_law D vwCl (tysC cI cJ cZ cR) 31 qx 18 qm b L xs (cX cI cJ cZ cR qx w d xi xa) (cM cI cJ cZ qm mi ma) 1168 [(3, .int (iI i)), (2, .ref (qm 0)), (1, .ref (qx 0)), (0, .ref b)] [] := by
  refine v_aload_n (j := 2) dL_law_1168 rfl rfl ?_
  refine v_aload_n (j := 3) dL_law_1169 rfl rfl ?_
  refine v_iload_n (j := 0) dL_law_1170 rfl rfl ?_
  refine v_iconst dL_law_1171 ?_
  refine v_iadd dL_law_1172 ?_
  refine v_sld dL_law_1173 (by omega) (by omega) ?_
  refine v_call1i (i := 0) (ci := 7) (As := [.int (iI (sx xs (i + 1).toNat))]) (rest := []) (c_X7_many hqx hXO (sx_rng _ _)) dL_law_1174 gL_law_X7_many rfl cd_X7_many ⟨Nat.le_of_ble_eq_true rfl, Nat.le_of_ble_eq_true rfl⟩ rfl rfl (by decide) rfl rfl rfl (Nat.le_of_ble_eq_true rfl) ⟨Nat.le_of_ble_eq_true rfl, Nat.le_of_ble_eq_true rfl⟩ (fun r1 g1 hp1 => ?_)
  obtain ⟨⟨e1, he1, rfl⟩, rfl⟩ := hp1
  refine v_aload_n (j := 1) dL_law_1177 rfl rfl ?_
  refine v_aload_n (j := 3) dL_law_1178 rfl rfl ?_
  refine v_iload_n (j := 0) dL_law_1179 rfl rfl ?_
  refine v_iconst dL_law_1180 ?_
  refine v_iadd dL_law_1181 ?_
  refine v_sld dL_law_1182 (by omega) (by omega) ?_
  refine v_call2i (i := 0) (ci := 8) (As := [.int (iI (sx xs (i + 1).toNat))]) (rest := [.int (iI e1)]) (c_X8_many hqm hMO (sx_rng _ _)) dL_law_1183 gL_law_X8_many rfl cd_X8_many ⟨Nat.le_of_ble_eq_true rfl, Nat.le_of_ble_eq_true rfl⟩ rfl rfl (by decide) rfl rfl rfl (Nat.le_of_ble_eq_true rfl) ⟨Nat.le_of_ble_eq_true rfl, Nat.le_of_ble_eq_true rfl⟩ (fun r2 g2 hp2 => ?_)
  obtain ⟨⟨e2, he2, rfl⟩, rfl⟩ := hp2
  have hs1 := he1
  have hsx : vX w xi xa = vX w xi xa := rfl
  have hXn := hXO
  have hs2 := he2
  have hsm : vM mi ma = vM mi ma := rfl
  have hMn := hMO
  rw [← hv] at hs2
  have hee := dt_many hs2 hs1
  have hvv := hsx.trans (hv.trans hsm.symm)
  rw [hee]
  refine v_icmp_same (tgt := 1191) dL_law_1186 (by decide) ?_
  exact kk w d xi xa mi ma hXn hMn hvv
