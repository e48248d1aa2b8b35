set_option maxHeartbeats 4000000 in
set_option maxRecDepth 100000 in
theorem law_loop {p : Program} {l : Launch} {e : Env} {s : State} {m : MethodId} {args : Array Value} {below : List Frame} {meth : Method} {c : Code} {Q : State → Prop} {D : va_G} {cI cJ cZ cR : ClassId} {qx qm : Nat → Nat} {b L : Nat} {xs : Nat → Int32} (hqx : qOk 31 qx) (hqm : qOk 18 qm) (hL : L ≤ 3584) (hend : ∀ (f1 f2 : Nat → va_E) (lv : List (Nat × Value)), VV p l e room_1 s m args below meth c Q 49 3256 cL_law 4 RL wsL_law D vwCl (tysC cI cJ cZ cR) 31 qx 18 qm b L xs f1 f2 1197 lv []) : ∀ (N : Nat) (w d : Nat) (xi : Nat → Int) (xa : Nat → Nat → Int) (mi : Nat → Int) (ma : Nat → Nat → Int) (i : Int), ((L : Int) - i).toNat < N → (0 ≤ i ∧ i ≤ (L : Int)) → XOk w d xi xa → MOk mi ma → vX w xi xa = vM mi ma → VV p l e room_1 s m args below meth c Q 49 3256 cL_law 4 RL wsL_law D vwCl (tysC cI cJ cZ cR) 31 qx 18 qm b L xs (cX cI cJ cZ cR qx w d xi xa) (cM cI cJ cZ qm mi ma) 18 [(3, .int (iI i)), (2, .ref (qm 0)), (1, .ref (qx 0)), (0, .ref b)] [] := by
  intro N
  induction N with
  | zero => intro w d xi xa mi ma i hm; exact absurd hm (Nat.not_lt_zero _)
  | succ N ih =>
    intro w d xi xa mi ma i hm hi0 hXO hMO hv
    refine v_iload_n (j := 0) dL_law_18 rfl rfl ?_
    refine v_aload_n (j := 3) dL_law_19 rfl rfl ?_
    refine v_slen dL_law_20 ?_
    refine v_bipush dL_law_21 (by decide) ?_
    refine v_isub dL_law_23 ?_
    refine v_icmp_gt (tgt := 1197) dL_law_24 (by decide) (by omega) (by omega) (fun _ => hend _ _ _) (fun c_24 => ?_)
    have hi : 0 ≤ i ∧ i + 7 ≤ (L : Int) := by omega
    have hback : ∀ (w' d' : Nat) (xi' : Nat → Int) (xa' : Nat → Nat → Int) (mi' : Nat → Int) (ma' : Nat → Nat → Int), XOk w' d' xi' xa' → MOk mi' ma' → vX w' xi' xa' = vM mi' ma' → VV p l e room_1 s m args below meth c Q 49 3256 cL_law 4 RL wsL_law D vwCl (tysC cI cJ cZ cR) 31 qx 18 qm b L xs (cX cI cJ cZ cR qx w' d' xi' xa') (cM cI cJ cZ qm mi' ma') 1191 [(3, .int (iI i)), (2, .ref (qm 0)), (1, .ref (qx 0)), (0, .ref b)] [] := by
      intro w' d' xi' xa' mi' ma' h1 h2 h3
      refine v_iinc (j := 0) [(3, .int (iI (i + 7))), (2, .ref (qm 0)), (1, .ref (qx 0)), (0, .ref b)] dL_law_1191 rfl (by decide) rfl ?_
      refine v_goto (tgt := 18) dL_law_1194 (by decide) ?_
      exact ih w' d' xi' xa' mi' ma' (i + 7) (by omega) (by omega) h1 h2 h3
    refine v_aload_n (j := 3) dL_law_27 rfl rfl ?_
    refine v_iload_n (j := 0) dL_law_28 rfl rfl ?_
    refine v_sld dL_law_29 (by omega) (by omega) ?_
    refine v_bipush dL_law_30 (by decide) ?_
    have hr := iI_rng (iI (sx xs i.toNat) &&& iI 31)
    refine v_iand (iI (iI (sx xs i.toNat) &&& iI 31).toInt) dL_law_32 (iI_self _).symm ?_
    generalize (iI (sx xs i.toNat) &&& iI 31).toInt = kv at hr ⊢
    by_cases k_0 : kv = 0
    · exact v_tsw (kv := 0) (off := 123) (tgt := 156) dL_law_33 hr k_0 (by decide) (by decide) rfl (by decide) (lc_river hqx hqm hXO hMO hv hi hback)
    by_cases k_1 : kv = 1
    · exact v_tsw (kv := 1) (off := 176) (tgt := 209) dL_law_33 hr k_1 (by decide) (by decide) rfl (by decide) (lc_ofCell hqx hqm hXO hMO hv hi hback)
    by_cases k_2 : kv = 2
    · exact v_tsw (kv := 2) (off := 209) (tgt := 242) dL_law_33 hr k_2 (by decide) (by decide) rfl (by decide) (lc_pace hqx hqm hXO hMO hv hi hback)
    by_cases k_3 : kv = 3
    · exact v_tsw (kv := 3) (off := 232) (tgt := 265) dL_law_33 hr k_3 (by decide) (by decide) rfl (by decide) (lc_bridge hqx hqm hXO hMO hv hi hback)
    by_cases k_4 : kv = 4
    · exact v_tsw (kv := 4) (off := 281) (tgt := 314) dL_law_33 hr k_4 (by decide) (by decide) rfl (by decide) (lc_plan hqx hqm hXO hMO hv hi hback)
    by_cases k_5 : kv = 5
    · exact v_tsw (kv := 5) (off := 344) (tgt := 377) dL_law_33 hr k_5 (by decide) (by decide) rfl (by decide) (lc_dry hqx hqm hXO hMO hv hi hback)
    by_cases k_6 : kv = 6
    · exact v_tsw (kv := 6) (off := 408) (tgt := 441) dL_law_33 hr k_6 (by decide) (by decide) rfl (by decide) (lc_soonest hqx hqm hXO hMO hv hi hback)
    by_cases k_7 : kv = 7
    · exact v_tsw (kv := 7) (off := 421) (tgt := 454) dL_law_33 hr k_7 (by decide) (by decide) rfl (by decide) (lc_surest hqx hqm hXO hMO hv hi hback)
    by_cases k_8 : kv = 8
    · exact v_tsw (kv := 8) (off := 454) (tgt := 487) dL_law_33 hr k_8 (by decide) (by decide) rfl (by decide) (lc_sure hqx hqm hXO hMO hv hi hback)
    by_cases k_9 : kv = 9
    · exact v_tsw (kv := 9) (off := 488) (tgt := 521) dL_law_33 hr k_9 (by decide) (by decide) rfl (by decide) (lc_cost hqx hqm hXO hMO hv hi hback)
    by_cases k_10 : kv = 10
    · exact v_tsw (kv := 10) (off := 511) (tgt := 544) dL_law_33 hr k_10 (by decide) (by decide) rfl (by decide) (lc_reading hqx hqm hXO hMO hv hi hback)
    by_cases k_11 : kv = 11
    · exact v_tsw (kv := 11) (off := 544) (tgt := 577) dL_law_33 hr k_11 (by decide) (by decide) rfl (by decide) (lc_back hqx hqm hXO hMO hv hi hback)
    by_cases k_12 : kv = 12
    · exact v_tsw (kv := 12) (off := 567) (tgt := 600) dL_law_33 hr k_12 (by decide) (by decide) rfl (by decide) (lc_ways hqx hqm hXO hMO hv hi hback)
    by_cases k_13 : kv = 13
    · exact v_tsw (kv := 13) (off := 600) (tgt := 633) dL_law_33 hr k_13 (by decide) (by decide) rfl (by decide) (lc_kinds hqx hqm hXO hMO hv hi hback)
    by_cases k_14 : kv = 14
    · exact v_tsw (kv := 14) (off := 675) (tgt := 708) dL_law_33 hr k_14 (by decide) (by decide) rfl (by decide) (lc_muds hqx hqm hXO hMO hv hi hback)
    by_cases k_15 : kv = 15
    · exact v_tsw (kv := 15) (off := 750) (tgt := 783) dL_law_33 hr k_15 (by decide) (by decide) rfl (by decide) (lc_odds hqx hqm hXO hMO hv hi hback)
    by_cases k_16 : kv = 16
    · exact v_tsw (kv := 16) (off := 814) (tgt := 847) dL_law_33 hr k_16 (by decide) (by decide) rfl (by decide) (lc_sheet hqx hqm hXO hMO hv hi hback)
    by_cases k_17 : kv = 17
    · exact v_tsw (kv := 17) (off := 857) (tgt := 890) dL_law_33 hr k_17 (by decide) (by decide) rfl (by decide) (lc_lose hqx hqm hXO hMO hv hi hback)
    by_cases k_18 : kv = 18
    · exact v_tsw (kv := 18) (off := 880) (tgt := 913) dL_law_33 hr k_18 (by decide) (by decide) rfl (by decide) (lc_put hqx hqm hXO hMO hv hi hback)
    by_cases k_19 : kv = 19
    · exact v_tsw (kv := 19) (off := 923) (tgt := 956) dL_law_33 hr k_19 (by decide) (by decide) rfl (by decide) (lc_cell hqx hqm hXO hMO hv hi hback)
    by_cases k_20 : kv = 20
    · exact v_tsw (kv := 20) (off := 967) (tgt := 1000) dL_law_33 hr k_20 (by decide) (by decide) rfl (by decide) (lc_copy hqx hqm hXO hMO hv hi hback)
    by_cases k_21 : kv = 21
    · exact v_tsw (kv := 21) (off := 1030) (tgt := 1063) dL_law_33 hr k_21 (by decide) (by decide) rfl (by decide) (lc_tell hqx hqm hXO hMO hv hi hback)
    by_cases k_22 : kv = 22
    · exact v_tsw (kv := 22) (off := 1053) (tgt := 1086) dL_law_33 hr k_22 (by decide) (by decide) rfl (by decide) (lc_sound hqx hqm hXO hMO hv hi hback)
    by_cases k_23 : kv = 23
    · exact v_tsw (kv := 23) (off := 1076) (tgt := 1109) dL_law_33 hr k_23 (by decide) (by decide) rfl (by decide) (lc_as hqx hqm hXO hMO hv hi hback)
    by_cases k_24 : kv = 24
    · exact v_tsw (kv := 24) (off := 1109) (tgt := 1142) dL_law_33 hr k_24 (by decide) (by decide) rfl (by decide) (lc_trace hqx hqm hXO hMO hv hi hback)
    by_cases k_25 : kv = 25
    · exact v_tsw (kv := 25) (off := 1122) (tgt := 1155) dL_law_33 hr k_25 (by decide) (by decide) rfl (by decide) (lc_fault hqx hqm hXO hMO hv hi hback)
    by_cases k_26 : kv = 26
    · exact v_tsw (kv := 26) (off := 1135) (tgt := 1168) dL_law_33 hr k_26 (by decide) (by decide) rfl (by decide) (lc_many hqx hqm hXO hMO hv hi hback)
    exact v_tswD (tgt := 1191) dL_law_33 hr (by omega) (by decide) (hback w d xi xa mi ma hXO hMO hv)
def xi0 : Nat → Int := fun k => match k with | 2 => -1 | 3 => -1 | 4 => -1 | 5 => -1 | 16 => -9 | _ => 0
def ma0 : Nat → Nat → Int := fun t => match t with | 14 => va_up (va_up (va_up (va_up (fun _ => 0) 0 (-1)) 1 (-1)) 2 (-1)) 3 (-1) | _ => fun _ => 0
theorem xi0_lan {j : Nat} (h : j < 4) : xi0 (2 + j) = -1 := by
  match j, h with
  | 0, _ => rfl
  | 1, _ => rfl
  | 2, _ => rfl
  | 3, _ => rfl
theorem xi0_len {j : Nat} (h : j < 8) : xi0 (6 + j) = 0 := by
  match j, h with
  | 0, _ => rfl
  | 1, _ => rfl
  | 2, _ => rfl
  | 3, _ => rfl
  | 4, _ => rfl
  | 5, _ => rfl
  | 6, _ => rfl
  | 7, _ => rfl
theorem ma0_14 (j : Nat) : (j < 4 → ma0 14 j = -1) ∧ (¬ j < 4 → ma0 14 j = 0) := by
  show (j < 4 → va_up (va_up (va_up (va_up (fun _ => (0 : Int)) 0 (-1)) 1 (-1)) 2 (-1)) 3 (-1) j = -1) ∧ (¬ j < 4 → va_up (va_up (va_up (va_up (fun _ => (0 : Int)) 0 (-1)) 1 (-1)) 2 (-1)) 3 (-1) j = 0)
  refine ⟨fun h => ?_, fun h => ?_⟩
  · match j, h with
    | 0, _ => rfl
    | 1, _ => rfl
    | 2, _ => rfl
    | 3, _ => rfl
  · rw [up_n (by omega), up_n (by omega), up_n (by omega), up_n (by omega)]
theorem XOk_0 : XOk 0 1 xi0 (fun _ _ => 0) := by
  have h00 : (0 : Int) = 0 ∨ (0 : Int) = 1 := Or.inl rfl
  refine ⟨⟨by decide, rfl⟩, fun j hj => ⟨⟨?_, ?_, fun _ => ?_⟩, fun _ => xi0_len (by omega)⟩, fun b hb => ⟨?_, ?_, fun _ => ?_, fun _ => ?_, fun _ => h00, fun _ => h00⟩, Or.inl rfl, ⟨⟨?_, fun _ => ?_, fun _ => ?_⟩, fun k hk => ?_⟩, ⟨?_, fun _ => ?_, fun _ => ?_⟩, ⟨Or.inl rfl, fun h => ?_⟩, ?_, ?_⟩
  · rw [xi0_lan hj]; omega
  · rw [xi0_len (by omega)]; omega
  · show (-2147483648 : Int) ≤ 0 ∧ (0 : Int) < 2147483648
    omega
  · rw [show 10 + b = 6 + (4 + b) by omega, xi0_len (by omega)]; omega
  · rw [show 12 + b = 6 + (6 + b) by omega, xi0_len (by omega)]; omega
  · show (0 : Int) ≤ 0 ∧ (0 : Int) ≤ 2
    omega
  · show (0 : Int) ≤ 0 ∧ (0 : Int) ≤ 9
    omega
  · show (0 : Int) ≤ 0 ∧ (0 : Int) ≤ 8
    omega
  · show (-2147483648 : Int) ≤ 0 ∧ (0 : Int) < 2147483648
    omega
  · show (-2147483648 : Int) ≤ 0 ∧ (0 : Int) < 2147483648
    omega
  · have h2 : (k : Int) < 0 := hk
    exact absurd h2 (by omega)
  · show (0 : Int) ≤ 0 ∧ (0 : Int) ≤ 18
    omega
  · show (0 : Int) ≤ 0 ∧ (0 : Int) ≤ 3
    omega
  · show (0 : Int) ≤ 0 ∧ (0 : Int) ≤ 15
    omega
  · have h2 : (0 : Int) = 1 := h
    exact absurd h2 (by omega)
  · show (0 : Int) ≤ 0 ∧ (0 : Int) ≤ 4
    omega
  · show (0 : Int) ≤ 0 ∧ (0 : Int) ≤ 5
    omega
theorem MOk_0 : MOk (fun _ => 0) ma0 := by
  have h00 : (0 : Int) = 0 ∨ (0 : Int) = 1 := Or.inl rfl
  have r2 : (0 : Int) ≤ 0 ∧ (0 : Int) ≤ 2 := by omega
  have r9 : (0 : Int) ≤ 0 ∧ (0 : Int) ≤ 9 := by omega
  have r32 : (-2147483648 : Int) ≤ 0 ∧ (0 : Int) < 2147483648 := by omega
  have r16 : (0 : Int) ≤ 0 ∧ (0 : Int) ≤ 16 := by omega
  have r3 : (0 : Int) ≤ 0 ∧ (0 : Int) ≤ 3 := by omega
  have r8 : (0 : Int) ≤ 0 ∧ (0 : Int) ≤ 8 := by omega
  have r4 : (0 : Int) ≤ 0 ∧ (0 : Int) ≤ 4 := by omega
  refine ⟨⟨r16, r3, fun _ => r2, fun _ => r9, fun _ => h00, fun _ => h00⟩, Or.inl rfl, ⟨fun _ => r2, fun _ => r9, fun _ => h00, fun _ => h00⟩, fun j => ⟨?_, r2⟩, fun _ => r32, fun _ => r32, ⟨r8, fun _ => r32, fun _ => r32⟩, r4⟩
  have h := ma0_14 j
  by_cases hj : j < 4
  · rw [h.1 hj]; omega
  · rw [h.2 hj]; omega
theorem view_0 : vX 0 xi0 (fun _ _ => 0) = vM (fun _ => 0) ma0 := by
  refine av_ext rfl rfl rfl rfl ?_ ?_ ?_ rfl rfl rfl
  · show lanX xi0 = lanM ma0
    funext j
    unfold lanX lanM
    by_cases hj : j < 4
    · rw [if_pos hj, if_pos hj, xi0_lan hj, if_pos (by rw [(ma0_14 j).1 hj]; decide)]
    · rw [if_neg hj, if_neg hj]
  · show lenX xi0 = lenM ma0
    funext j
    unfold lenX lenM
    by_cases hj : j < 4
    · rw [if_pos hj, if_pos hj, xi0_len (by omega), if_pos (by rw [(ma0_14 j).1 hj]; decide)]
    · rw [if_neg hj, if_neg hj]
  · show numX xi0 (fun _ _ => 0) = numM ma0
    funext j
    unfold numX numM
    by_cases hj : j < 4
    · rw [if_pos hj, if_pos hj, xi0_len (by omega), lenM_in hj, if_pos (by rw [(ma0_14 j).1 hj]; decide), nrm_zero, nrm_zero]
    · rw [if_neg hj, if_neg hj]
def qX0 (x0 : Nat) (u : Nat → Nat) : Nat → Nat := fun i => match i with | 0 => x0 | 1 => u 0 | 2 => u 22 | 3 => u 24 | 4 => u 26 | 5 => u 28 | 6 => u 23 | 7 => u 25 | 8 => u 27 | 9 => u 29 | 10 => u 1 | 11 => u 6 | 12 => u 2 | 13 => u 7 | 14 => u 3 | 15 => u 8 | 16 => u 4 | 17 => u 9 | 18 => u 5 | 19 => u 10 | 20 => u 11 | 21 => u 12 | 22 => u 13 | 23 => u 14 | 24 => u 15 | 25 => u 16 | 26 => u 17 | 27 => u 18 | 28 => u 19 | 29 => u 20 | 30 => u 21 | _ => 0
def qM0 (y0 : Nat) (v : Nat → Nat) : Nat → Nat := fun i => match i with | 0 => y0 | 1 => v 0 | 2 => v 1 | 3 => v 2 | 4 => v 3 | 5 => v 4 | 6 => v 5 | 7 => v 6 | 8 => v 7 | 9 => v 8 | 10 => v 9 | 11 => v 10 | 12 => v 11 | 13 => v 12 | 14 => v 13 | 15 => v 14 | 16 => v 15 | 17 => v 16 | _ => 0
def plX : Nat → Nat := fun i => match i with | 0 => 0 | 1 => 1 | 2 => 23 | 3 => 25 | 4 => 27 | 5 => 29 | 6 => 24 | 7 => 26 | 8 => 28 | 9 => 30 | 10 => 2 | 11 => 7 | 12 => 3 | 13 => 8 | 14 => 4 | 15 => 9 | 16 => 5 | 17 => 10 | 18 => 6 | 19 => 11 | 20 => 12 | 21 => 13 | 22 => 14 | 23 => 15 | 24 => 16 | 25 => 17 | 26 => 18 | 27 => 19 | 28 => 20 | 29 => 21 | 30 => 22 | _ => 100
def plM : Nat → Nat := fun i => 31 + i
def W49 (cI cJ cZ cR : ClassId) (x0 : Nat) (u : Nat → Nat) (y0 : Nat) (v : Nat → Nat) : va_W := [(x0, .inr (7, [.ref (u 0), .ref (u 1), .ref (u 6), .ref (u 11), .ref (u 12), .ref (u 15), .ref (u 18), .ref (u 20), .int (iI 0), .int (iI 0)])), ((u 0), .inl (cR, 4, .inr (.inr (.inr (.inr (va_up (va_up (va_up (va_up (fun _ => none) 0 (some (u 22))) 1 (some (u 24))) 2 (some (u 26))) 3 (some (u 28)))))))), ((u 1), .inr (2, [.ref (u 2), .ref (u 3), .ref (u 4), .ref (u 5), .int (iI 0), .int (iI 0)])), ((u 2), xAr cI 16 (fun _ => 0)), ((u 3), xAr cI 16 (fun _ => 0)), ((u 4), xAr cZ 16 (fun _ => 0)), ((u 5), xAr cZ 16 (fun _ => 0)), ((u 6), .inr (2, [.ref (u 7), .ref (u 8), .ref (u 9), .ref (u 10), .int (iI 0), .int (iI 0)])), ((u 7), xAr cI 16 (fun _ => 0)), ((u 8), xAr cI 16 (fun _ => 0)), ((u 9), xAr cZ 16 (fun _ => 0)), ((u 10), xAr cZ 16 (fun _ => 0)), ((u 11), .inr (5, [.int (iI 0)])), ((u 12), .inr (0, [.ref (u 13), .ref (u 14), .int (iI 0), .int (iI (-9)), .int (iI 0)])), ((u 13), xAr cI 18 (fun _ => 0)), ((u 14), xAr cI 18 (fun _ => 0)), ((u 15), .inr (1, [.ref (u 16), .ref (u 17), .int (iI 0)])), ((u 16), xAr cI 8 (fun _ => 0)), ((u 17), xAr cI 8 (fun _ => 0)), ((u 18), .inr (4, [.ref (u 19), .int (iI 0)])), ((u 19), .inl (cJ, 832, .inr (.inl (fun k => lI ((fun _ => 0) k))))), ((u 20), .inr (6, [.ref (u 21)])), ((u 21), xAr cI 512 (fun _ => 0)), ((u 22), .inr (3, [.ref (u 23), .int (iI (-1)), .int (iI 0)])), ((u 23), xAr cI 60 (fun _ => 0)), ((u 24), .inr (3, [.ref (u 25), .int (iI (-1)), .int (iI 0)])), ((u 25), xAr cI 60 (fun _ => 0)), ((u 26), .inr (3, [.ref (u 27), .int (iI (-1)), .int (iI 0)])), ((u 27), xAr cI 60 (fun _ => 0)), ((u 28), .inr (3, [.ref (u 29), .int (iI (-1)), .int (iI 0)])), ((u 29), xAr cI 60 (fun _ => 0)), (y0, .inr (8, [.int (iI 0), .int (iI 0), .int (iI 0), .ref (v 0), .ref (v 1), .ref (v 2), .ref (v 3), .int (iI 0), .int (iI 0), .int (iI 0), .ref (v 4), .ref (v 5), .ref (v 6), .ref (v 7), .int (iI 0), .int (iI 0), .int (iI 0), .long (lI 0), .int (iI 0), .ref (v 8), .ref (v 9), .ref (v 10), .int (iI 0), .ref (v 11), .ref (v 12), .ref (v 13), .ref (v 14), .ref (v 15), .ref (v 16), .int (iI 0)])), ((v 0), xAr cI 16 (fun _ => 0)), ((v 1), xAr cI 16 (fun _ => 0)), ((v 2), xAr cI 16 (fun _ => 0)), ((v 3), xAr cI 16 (fun _ => 0)), ((v 4), xAr cI 16 (fun _ => 0)), ((v 5), xAr cI 16 (fun _ => 0)), ((v 6), xAr cI 16 (fun _ => 0)), ((v 7), xAr cI 16 (fun _ => 0)), ((v 8), .inl (cJ, 832, .inr (.inl (fun k => lI ((fun _ => 0) k))))), ((v 9), xAr cZ 64 (fun _ => 0)), ((v 10), xAr cZ 64 (fun _ => 0)), ((v 11), xAr cI 8 (fun _ => 0)), ((v 12), xAr cI 8 (fun _ => 0)), ((v 13), xAr cI 4 (va_up (va_up (va_up (va_up (fun _ => 0) 0 (-1)) 1 (-1)) 2 (-1)) 3 (-1))), ((v 14), xAr cI 4 (fun _ => 0)), ((v 15), xAr cI 240 (fun _ => 0)), ((v 16), xAr cI 60 (fun _ => 0))]
theorem qOk_of {A : Nat → Prop} {ws : va_W} {n : Nat} {q : Nat → Nat} (pl : Nat → Nat) (hD : va_D A ws) (hw : ∀ i, i < n → ∃ e, ws[pl i]? = some (q i, e)) (hi : ∀ i, i < n → ∀ j, j < n → pl i = pl j → i = j) : qOk n q := by
  intro i j h1 h2 h
  obtain ⟨e1, g1⟩ := hw i h1
  obtain ⟨e2, g2⟩ := hw j h2
  exact hi i h1 j h2 (hD.1 _ _ _ _ g1 g2 h)
theorem arrV_eq {cA : ClassId} {N : Nat} {f g : Nat → Value} (h : ∀ j, j < N → f j = g j) : arrV cA N f = arrV cA N g := by
  unfold arrV
  congr 1
  apply Array.ext_getElem?
  intro i
  by_cases hi : i < N
  · simp [hi, h i hi]
  · simp [hi]
theorem plX_inj : ∀ i, i < 31 → ∀ j, j < 31 → plX i = plX j → i = j := by decide +kernel
theorem hwX {cI cJ cZ cR : ClassId} {x0 y0 : Nat} {u v : Nat → Nat} : ∀ i, i < 31 → ∃ e, (W49 cI cJ cZ cR x0 u y0 v)[plX i]? = some (qX0 x0 u i, e) := by
  intro i hi
  match i, hi with
  | 0, _ => exact ⟨_, rfl⟩
  | 1, _ => exact ⟨_, rfl⟩
  | 2, _ => exact ⟨_, rfl⟩
  | 3, _ => exact ⟨_, rfl⟩
  | 4, _ => exact ⟨_, rfl⟩
  | 5, _ => exact ⟨_, rfl⟩
  | 6, _ => exact ⟨_, rfl⟩
  | 7, _ => exact ⟨_, rfl⟩
  | 8, _ => exact ⟨_, rfl⟩
  | 9, _ => exact ⟨_, rfl⟩
  | 10, _ => exact ⟨_, rfl⟩
  | 11, _ => exact ⟨_, rfl⟩
  | 12, _ => exact ⟨_, rfl⟩
  | 13, _ => exact ⟨_, rfl⟩
  | 14, _ => exact ⟨_, rfl⟩
  | 15, _ => exact ⟨_, rfl⟩
  | 16, _ => exact ⟨_, rfl⟩
  | 17, _ => exact ⟨_, rfl⟩
  | 18, _ => exact ⟨_, rfl⟩
  | 19, _ => exact ⟨_, rfl⟩
  | 20, _ => exact ⟨_, rfl⟩
  | 21, _ => exact ⟨_, rfl⟩
  | 22, _ => exact ⟨_, rfl⟩
  | 23, _ => exact ⟨_, rfl⟩
  | 24, _ => exact ⟨_, rfl⟩
  | 25, _ => exact ⟨_, rfl⟩
  | 26, _ => exact ⟨_, rfl⟩
  | 27, _ => exact ⟨_, rfl⟩
  | 28, _ => exact ⟨_, rfl⟩
  | 29, _ => exact ⟨_, rfl⟩
  | 30, _ => exact ⟨_, rfl⟩
  | k + 31, h => exact absurd h (by omega)
theorem hwM {cI cJ cZ cR : ClassId} {x0 y0 : Nat} {u v : Nat → Nat} : ∀ i, i < 18 → ∃ e, (W49 cI cJ cZ cR x0 u y0 v)[plM i]? = some (qM0 y0 v i, e) := by
  intro i hi
  match i, hi with
  | 0, _ => exact ⟨_, rfl⟩
  | 1, _ => exact ⟨_, rfl⟩
  | 2, _ => exact ⟨_, rfl⟩
  | 3, _ => exact ⟨_, rfl⟩
  | 4, _ => exact ⟨_, rfl⟩
  | 5, _ => exact ⟨_, rfl⟩
  | 6, _ => exact ⟨_, rfl⟩
  | 7, _ => exact ⟨_, rfl⟩
  | 8, _ => exact ⟨_, rfl⟩
  | 9, _ => exact ⟨_, rfl⟩
  | 10, _ => exact ⟨_, rfl⟩
  | 11, _ => exact ⟨_, rfl⟩
  | 12, _ => exact ⟨_, rfl⟩
  | 13, _ => exact ⟨_, rfl⟩
  | 14, _ => exact ⟨_, rfl⟩
  | 15, _ => exact ⟨_, rfl⟩
  | 16, _ => exact ⟨_, rfl⟩
  | 17, _ => exact ⟨_, rfl⟩
  | k + 18, h => exact absurd h (by omega)
set_option maxRecDepth 100000 in
theorem hpX {cI cJ cZ cR : ClassId} {x0 y0 : Nat} {u v : Nat → Nat} {D : va_G} {H : Heap} (hP : va_P D vwCl (W49 cI cJ cZ cR x0 u y0 v) H) : va_P D vwCl (idW 31 (qX0 x0 u) (cX cI cJ cZ cR (qX0 x0 u) 0 1 xi0 (fun _ _ => 0))) H := by
  intro k x hx
  obtain ⟨hk, rfl⟩ := idW_some hx
  match k, hk with
  | 0, _ => exact hP 0 _ rfl
  | 1, _ =>
    have h := hP 1 _ rfl
    have h1 : H[u 0]? = some (vp_cell cR (4, .inr (.inr (.inr (.inr (va_up (va_up (va_up (va_up (fun _ => none) 0 (some (u 22))) 1 (some (u 24))) 2 (some (u 26))) 3 (some (u 28)))))))) := h
    show H[u 0]? = some (vp_cell cR (4, .inr (.inr (.inr (.inr (fun j => some (qX0 x0 u (2 + j))))))))
    rw [h1, vp_cell_q, vp_cell_q]
    refine congrArg some (arrV_eq (fun j hj => ?_))
    match j, hj with
    | 0, _ => rfl
    | 1, _ => rfl
    | 2, _ => rfl
    | 3, _ => rfl
  | 2, _ => exact hP 23 _ rfl
  | 3, _ => exact hP 25 _ rfl
  | 4, _ => exact hP 27 _ rfl
  | 5, _ => exact hP 29 _ rfl
  | 6, _ => exact hP 24 _ rfl
  | 7, _ => exact hP 26 _ rfl
  | 8, _ => exact hP 28 _ rfl
  | 9, _ => exact hP 30 _ rfl
  | 10, _ => exact hP 2 _ rfl
  | 11, _ => exact hP 7 _ rfl
  | 12, _ => exact hP 3 _ rfl
  | 13, _ => exact hP 8 _ rfl
  | 14, _ => exact hP 4 _ rfl
  | 15, _ => exact hP 9 _ rfl
  | 16, _ => exact hP 5 _ rfl
  | 17, _ => exact hP 10 _ rfl
  | 18, _ => exact hP 6 _ rfl
  | 19, _ => exact hP 11 _ rfl
  | 20, _ => exact hP 12 _ rfl
  | 21, _ => exact hP 13 _ rfl
  | 22, _ => exact hP 14 _ rfl
  | 23, _ => exact hP 15 _ rfl
  | 24, _ => exact hP 16 _ rfl
  | 25, _ => exact hP 17 _ rfl
  | 26, _ => exact hP 18 _ rfl
  | 27, _ => exact hP 19 _ rfl
  | 28, _ => exact hP 20 _ rfl
  | 29, _ => exact hP 21 _ rfl
  | 30, _ => exact hP 22 _ rfl
  | k + 31, h => exact absurd h (by omega)
set_option maxRecDepth 100000 in
theorem hpM {cI cJ cZ cR : ClassId} {x0 y0 : Nat} {u v : Nat → Nat} {D : va_G} {H : Heap} (hP : va_P D vwCl (W49 cI cJ cZ cR x0 u y0 v) H) : va_P D vwCl (idW 18 (qM0 y0 v) (cM cI cJ cZ (qM0 y0 v) (fun _ => 0) ma0)) H := by
  intro k x hx
  obtain ⟨hk, rfl⟩ := idW_some hx
  match k, hk with
  | 0, _ => exact hP 31 _ rfl
  | 1, _ => exact hP 32 _ rfl
  | 2, _ => exact hP 33 _ rfl
  | 3, _ => exact hP 34 _ rfl
  | 4, _ => exact hP 35 _ rfl
  | 5, _ => exact hP 36 _ rfl
  | 6, _ => exact hP 37 _ rfl
  | 7, _ => exact hP 38 _ rfl
  | 8, _ => exact hP 39 _ rfl
  | 9, _ => exact hP 40 _ rfl
  | 10, _ => exact hP 41 _ rfl
  | 11, _ => exact hP 42 _ rfl
  | 12, _ => exact hP 43 _ rfl
  | 13, _ => exact hP 44 _ rfl
  | 14, _ => exact hP 45 _ rfl
  | 15, _ => exact hP 46 _ rfl
  | 16, _ => exact hP 47 _ rfl
  | 17, _ => exact hP 48 _ rfl
  | k + 18, h => exact absurd h (by omega)
theorem y_toV {p : Program} {l : Launch} {e : Env} {s : State} {m : MethodId} {args : Array Value} {below : List Frame} {meth : Method} {c : Code} {Q : State → Prop} {D : va_G} {cI cJ cZ cR : ClassId} {x0 y0 : Nat} {u v : Nat → Nat} {b L : Nat} {xs : Nat → Int32} {ret : Option FieldType} {pc : Nat} {lv : List (Nat × Value)} {st : List Value} (hX : va_X b L xs s s.heap) (hbl : b < s.heap.size) (hL : L ≤ 3584) (kk : qOk 31 (qX0 x0 u) → qOk 18 (qM0 y0 v) → VV p l e room_1 s m args below meth c Q 49 3256 cL_law 4 RL wsL_law D vwCl (tysC cI cJ cZ cR) 31 (qX0 x0 u) 18 (qM0 y0 v) b L xs (cX cI cJ cZ cR (qX0 x0 u) 0 1 xi0 (fun _ _ => 0)) (cM cI cJ cZ (qM0 y0 v) (fun _ => 0) ma0) pc lv st) : Y p l e room_1 s m args below meth c Q 49 3256 cL_law 4 RL wsL_law D vwCl (tysC cI cJ cZ cR) (fun a => s.heap.size ≤ a) ret (W49 cI cJ cZ cR x0 u y0 v) pc lv st := by
  intro C H locs ls hP hD hS hl
  obtain ⟨hx, hb, hml, hown, hts, hK, hA, hr, hlk, hNW, hAO⟩ := id C
  have hq1 := qOk_of plX hD hwX plX_inj
  have hq2 := qOk_of plM hD hwM (fun i _ j _ h => by unfold plM at h; omega)
  refine kk hq1 hq2 ⟨hx, hb, hml, hown, hts, hK, ⟨hq1, hq2, fun i j hi hj h => ?_⟩, ⟨fun i hi => ?_, fun i hi => ?_⟩, hNW, hX, hbl, hL⟩ H locs ls (hpX hP) (hpM hP) hS hl
  · obtain ⟨e1, g1⟩ := hwX (cI := cI) (cJ := cJ) (cZ := cZ) (cR := cR) (x0 := x0) (y0 := y0) (u := u) (v := v) i hi
    obtain ⟨e2, g2⟩ := hwM (cI := cI) (cJ := cJ) (cZ := cZ) (cR := cR) (x0 := x0) (y0 := y0) (u := u) (v := v) j hj
    have h1 := hD.1 _ _ _ _ g1 g2 h
    have h2 : plX i < 31 := by
      have hall : ∀ i, i < 31 → plX i < 31 := by decide +kernel
      exact hall i hi
    unfold plM at h1
    omega
  · obtain ⟨e1, g1⟩ := hwX (cI := cI) (cJ := cJ) (cZ := cZ) (cR := cR) (x0 := x0) (y0 := y0) (u := u) (v := v) i hi
    exact hD.2 _ _ g1
  · obtain ⟨e1, g1⟩ := hwM (cI := cI) (cJ := cJ) (cZ := cZ) (cR := cR) (x0 := x0) (y0 := y0) (u := u) (v := v) i hi
    exact hD.2 _ _ g1
