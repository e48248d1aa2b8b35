theorem hTm_of {w d : Nat} {xi mi : Nat → Int} {xa ma : Nat → Nat → Int} (hX : XOk w d xi xa) (hv : vX w xi xa = vM mi ma) : ∀ k : Nat, (k : Int) < mi 22 → 1 ≤ ma 12 k := by
  intro k hk
  have e1 : xi 18 = mi 22 := congrArg aRc hv
  have e2 : nrm (xi 18) (xa 14) = nrm (mi 22) (ma 12) := congrArg aRt hv
  have h := (hX.2.2.2.2.1.2 k (by omega)).1
  have e3 := congrFun e2 k
  rw [nrm_in (by omega), nrm_in hk] at e3
  rw [← e3]
  exact h
theorem cd_X7_river : yX7_river.cls = RX7 ∧ yX7_river.cls ≠ "java/lang/invoke/MethodHandle" ∧ yX7_river.cls ≠ "java/lang/invoke/VarHandle" ∧ (parseMethodDescriptor yX7_river.desc).map (fun d => d.parameters.length) = some 4 := ⟨rfl, by decide +kernel, by decide +kernel, by decide +kernel⟩
theorem cd_X8_river : yX8_river.cls = RX8 ∧ yX8_river.cls ≠ "java/lang/invoke/MethodHandle" ∧ yX8_river.cls ≠ "java/lang/invoke/VarHandle" ∧ (parseMethodDescriptor yX8_river.desc).map (fun d => d.parameters.length) = some 4 := ⟨rfl, by decide +kernel, by decide +kernel, by decide +kernel⟩
set_option maxHeartbeats 4000000 in
set_option maxRecDepth 100000 in
theorem lc_river {p : Program} {l : Launch} {e : Env} {s : State} {m : MethodId} {args : Array Value} {below : List Frame} {meth : Method} {c : Code} {Q : State → Prop} {D : va_G} {cI cJ cZ cR : ClassId} {qx qm : Nat → Nat} {b L : Nat} {xs : Nat → Int32} {w d : Nat} {xi : Nat → Int} {xa : Nat → Nat → Int} {mi : Nat → Int} {ma : Nat → Nat → Int} {i : Int} (hqx : qOk 31 qx) (hqm : qOk 18 qm) (hXO : XOk w d xi xa) (hMO : MOk mi ma) (hv : vX w xi xa = vM mi ma) (hi : 0 ≤ i ∧ i + 7 ≤ (L : Int)) (kk : ∀ (w' d' : Nat) (xi' : Nat → Int) (xa' : Nat → Nat → Int) (mi' : Nat → Int) (ma' : Nat → Nat → Int), XOk w' d' xi' xa' → MOk mi' ma' → vX w' xi' xa' = vM mi' ma' → VV p l e room_1 s m args below meth c Q 49 3256 cL_law 4 RL wsL_law D vwCl (tysC cI cJ cZ cR) 31 qx 18 qm b L xs (cX cI cJ cZ cR qx w' d' xi' xa') (cM cI cJ cZ qm mi' ma') 1191 [(3, .int (iI i)), (2, .ref (qm 0)), (1, .ref (qx 0)), (0, .ref b)] []) : VV p l e room_1 s m args below meth c Q 49 3256 cL_law 4 RL wsL_law D vwCl (tysC cI cJ cZ cR) 31 qx 18 qm b L xs (cX cI cJ cZ cR qx w d xi xa) (cM cI cJ cZ qm mi ma) 156 [(3, .int (iI i)), (2, .ref (qm 0)), (1, .ref (qx 0)), (0, .ref b)] [] := by
  refine v_aload_n (j := 2) dL_law_156 rfl rfl ?_
  refine v_aload_n (j := 3) dL_law_157 rfl rfl ?_
  refine v_iload_n (j := 0) dL_law_158 rfl rfl ?_
  refine v_iconst dL_law_159 ?_
  refine v_iadd dL_law_160 ?_
  refine v_sld dL_law_161 (by omega) (by omega) ?_
  refine v_aload_n (j := 3) dL_law_162 rfl rfl ?_
  refine v_iload_n (j := 0) dL_law_163 rfl rfl ?_
  refine v_iconst dL_law_164 ?_
  refine v_iadd dL_law_165 ?_
  refine v_sld dL_law_166 (by omega) (by omega) ?_
  refine v_aload_n (j := 3) dL_law_167 rfl rfl ?_
  refine v_iload_n (j := 0) dL_law_168 rfl rfl ?_
  refine v_iconst dL_law_169 ?_
  refine v_iadd dL_law_170 ?_
  refine v_sld dL_law_171 (by omega) (by omega) ?_
  refine v_aload_n (j := 3) dL_law_172 rfl rfl ?_
  refine v_iload_n (j := 0) dL_law_173 rfl rfl ?_
  refine v_iconst dL_law_174 ?_
  refine v_iadd dL_law_175 ?_
  refine v_sld dL_law_176 (by omega) (by omega) ?_
  refine v_call1i (i := 0) (ci := 7) (As := [.int (iI (sx xs (i + 1).toNat)), .int (iI (sx xs (i + 2).toNat)), .int (iI (sx xs (i + 3).toNat)), .int (iI (sx xs (i + 4).toNat))]) (rest := []) (c_X7_river hqx hXO (sx_rng _ _) (sx_rng _ _) (sx_rng _ _) (sx_rng _ _)) dL_law_177 gL_law_X7_river rfl cd_X7_river ⟨Nat.le_of_ble_eq_true rfl, Nat.le_of_ble_eq_true rfl⟩ rfl rfl (by decide) rfl rfl rfl (Nat.le_of_ble_eq_true rfl) ⟨Nat.le_of_ble_eq_true rfl, Nat.le_of_ble_eq_true rfl⟩ (fun r1 g1 hp1 => ?_)
  obtain ⟨e1, w', d', xi', xa', he1, rfl, rfl⟩ := hp1
  refine v_aload_n (j := 1) dL_law_180 rfl rfl ?_
  refine v_aload_n (j := 3) dL_law_181 rfl rfl ?_
  refine v_iload_n (j := 0) dL_law_182 rfl rfl ?_
  refine v_iconst dL_law_183 ?_
  refine v_iadd dL_law_184 ?_
  refine v_sld dL_law_185 (by omega) (by omega) ?_
  refine v_aload_n (j := 3) dL_law_186 rfl rfl ?_
  refine v_iload_n (j := 0) dL_law_187 rfl rfl ?_
  refine v_iconst dL_law_188 ?_
  refine v_iadd dL_law_189 ?_
  refine v_sld dL_law_190 (by omega) (by omega) ?_
  refine v_aload_n (j := 3) dL_law_191 rfl rfl ?_
  refine v_iload_n (j := 0) dL_law_192 rfl rfl ?_
  refine v_iconst dL_law_193 ?_
  refine v_iadd dL_law_194 ?_
  refine v_sld dL_law_195 (by omega) (by omega) ?_
  refine v_aload_n (j := 3) dL_law_196 rfl rfl ?_
  refine v_iload_n (j := 0) dL_law_197 rfl rfl ?_
  refine v_iconst dL_law_198 ?_
  refine v_iadd dL_law_199 ?_
  refine v_sld dL_law_200 (by omega) (by omega) ?_
  refine v_call2i (i := 0) (ci := 8) (As := [.int (iI (sx xs (i + 1).toNat)), .int (iI (sx xs (i + 2).toNat)), .int (iI (sx xs (i + 3).toNat)), .int (iI (sx xs (i + 4).toNat))]) (rest := [.int (iI e1)]) (c_X8_river hqm hMO (sx_rng _ _) (sx_rng _ _) (sx_rng _ _) (sx_rng _ _)) dL_law_201 gL_law_X8_river rfl cd_X8_river ⟨Nat.le_of_ble_eq_true rfl, Nat.le_of_ble_eq_true rfl⟩ rfl rfl (by decide) rfl rfl rfl (Nat.le_of_ble_eq_true rfl) ⟨Nat.le_of_ble_eq_true rfl, Nat.le_of_ble_eq_true rfl⟩ (fun r2 g2 hp2 => ?_)
  obtain ⟨e2, mi', ma', he2, rfl, rfl⟩ := hp2
  obtain ⟨hs1, hXn⟩ := he1
  obtain ⟨hs2, hMn⟩ := he2
  rw [← hv] at hs2
  obtain ⟨hee, hvv⟩ := dt_river hs2 hs1
  have hvv := hvv.symm
  rw [hee]
  refine v_icmp_same (tgt := 1191) dL_law_204 (by decide) ?_
  exact kk w' d' xi' xa' mi' ma' hXn hMn hvv
theorem cd_X7_ofCell : yX7_ofCell.cls = RX7 ∧ yX7_ofCell.cls ≠ "java/lang/invoke/MethodHandle" ∧ yX7_ofCell.cls ≠ "java/lang/invoke/VarHandle" ∧ (parseMethodDescriptor yX7_ofCell.desc).map (fun d => d.parameters.length) = some 2 := ⟨rfl, by decide +kernel, by decide +kernel, by decide +kernel⟩
theorem cd_X8_ofCell : yX8_ofCell.cls = RX8 ∧ yX8_ofCell.cls ≠ "java/lang/invoke/MethodHandle" ∧ yX8_ofCell.cls ≠ "java/lang/invoke/VarHandle" ∧ (parseMethodDescriptor yX8_ofCell.desc).map (fun d => d.parameters.length) = some 2 := ⟨rfl, by decide +kernel, by decide +kernel, by decide +kernel⟩
set_option maxHeartbeats 4000000 in
set_option maxRecDepth 100000 in
theorem lc_ofCell {p : Program} {l : Launch} {e : Env} {s : State} {m : MethodId} {args : Array Value} {below : List Frame} {meth : Method} {c : Code} {Q : State → Prop} {D : va_G} {cI cJ cZ cR : ClassId} {qx qm : Nat → Nat} {b L : Nat} {xs : Nat → Int32} {w d : Nat} {xi : Nat → Int} {xa : Nat → Nat → Int} {mi : Nat → Int} {ma : Nat → Nat → Int} {i : Int} (hqx : qOk 31 qx) (hqm : qOk 18 qm) (hXO : XOk w d xi xa) (hMO : MOk mi ma) (hv : vX w xi xa = vM mi ma) (hi : 0 ≤ i ∧ i + 7 ≤ (L : Int)) (kk : ∀ (w' d' : Nat) (xi' : Nat → Int) (xa' : Nat → Nat → Int) (mi' : Nat → Int) (ma' : Nat → Nat → Int), XOk w' d' xi' xa' → MOk mi' ma' → vX w' xi' xa' = vM mi' ma' → VV p l e room_1 s m args below meth c Q 49 3256 cL_law 4 RL wsL_law D vwCl (tysC cI cJ cZ cR) 31 qx 18 qm b L xs (cX cI cJ cZ cR qx w' d' xi' xa') (cM cI cJ cZ qm mi' ma') 1191 [(3, .int (iI i)), (2, .ref (qm 0)), (1, .ref (qx 0)), (0, .ref b)] []) : VV p l e room_1 s m args below meth c Q 49 3256 cL_law 4 RL wsL_law D vwCl (tysC cI cJ cZ cR) 31 qx 18 qm b L xs (cX cI cJ cZ cR qx w d xi xa) (cM cI cJ cZ qm mi ma) 209 [(3, .int (iI i)), (2, .ref (qm 0)), (1, .ref (qx 0)), (0, .ref b)] [] := by
  refine v_aload_n (j := 2) dL_law_209 rfl rfl ?_
  refine v_aload_n (j := 3) dL_law_210 rfl rfl ?_
  refine v_iload_n (j := 0) dL_law_211 rfl rfl ?_
  refine v_iconst dL_law_212 ?_
  refine v_iadd dL_law_213 ?_
  refine v_sld dL_law_214 (by omega) (by omega) ?_
  refine v_aload_n (j := 3) dL_law_215 rfl rfl ?_
  refine v_iload_n (j := 0) dL_law_216 rfl rfl ?_
  refine v_iconst dL_law_217 ?_
  refine v_iadd dL_law_218 ?_
  refine v_sld dL_law_219 (by omega) (by omega) ?_
  refine v_call1i (i := 0) (ci := 7) (As := [.int (iI (sx xs (i + 1).toNat)), .int (iI (sx xs (i + 2).toNat))]) (rest := []) (c_X7_ofCell hqx hXO (sx_rng _ _) (sx_rng _ _)) dL_law_220 gL_law_X7_ofCell rfl cd_X7_ofCell ⟨Nat.le_of_ble_eq_true rfl, Nat.le_of_ble_eq_true rfl⟩ rfl rfl (by decide) rfl rfl rfl (Nat.le_of_ble_eq_true rfl) ⟨Nat.le_of_ble_eq_true rfl, Nat.le_of_ble_eq_true rfl⟩ (fun r1 g1 hp1 => ?_)
  obtain ⟨⟨e1, he1, rfl⟩, rfl⟩ := hp1
  refine v_aload_n (j := 1) dL_law_223 rfl rfl ?_
  refine v_aload_n (j := 3) dL_law_224 rfl rfl ?_
  refine v_iload_n (j := 0) dL_law_225 rfl rfl ?_
  refine v_iconst dL_law_226 ?_
  refine v_iadd dL_law_227 ?_
  refine v_sld dL_law_228 (by omega) (by omega) ?_
  refine v_aload_n (j := 3) dL_law_229 rfl rfl ?_
  refine v_iload_n (j := 0) dL_law_230 rfl rfl ?_
  refine v_iconst dL_law_231 ?_
  refine v_iadd dL_law_232 ?_
  refine v_sld dL_law_233 (by omega) (by omega) ?_
  refine v_call2i (i := 0) (ci := 8) (As := [.int (iI (sx xs (i + 1).toNat)), .int (iI (sx xs (i + 2).toNat))]) (rest := [.int (iI e1)]) (c_X8_ofCell hqm hMO (sx_rng _ _) (sx_rng _ _)) dL_law_234 gL_law_X8_ofCell rfl cd_X8_ofCell ⟨Nat.le_of_ble_eq_true rfl, Nat.le_of_ble_eq_true rfl⟩ rfl rfl (by decide) rfl rfl rfl (Nat.le_of_ble_eq_true rfl) ⟨Nat.le_of_ble_eq_true rfl, Nat.le_of_ble_eq_true rfl⟩ (fun r2 g2 hp2 => ?_)
  obtain ⟨⟨e2, he2, rfl⟩, rfl⟩ := hp2
  have hs1 := he1
  have hsx : vX w xi xa = vX w xi xa := rfl
  have hXn := hXO
  have hs2 := he2
  have hsm : vM mi ma = vM mi ma := rfl
  have hMn := hMO
  rw [← hv] at hs2
  have hee := dt_ofCell hs2 hs1
  have hvv := hsx.trans (hv.trans hsm.symm)
  rw [hee]
  refine v_icmp_same (tgt := 1191) dL_law_237 (by decide) ?_
  exact kk w d xi xa mi ma hXn hMn hvv
theorem cd_X7_pace : yX7_pace.cls = RX7 ∧ yX7_pace.cls ≠ "java/lang/invoke/MethodHandle" ∧ yX7_pace.cls ≠ "java/lang/invoke/VarHandle" ∧ (parseMethodDescriptor yX7_pace.desc).map (fun d => d.parameters.length) = some 1 := ⟨rfl, by decide +kernel, by decide +kernel, by decide +kernel⟩
theorem cd_X8_pace : yX8_pace.cls = RX8 ∧ yX8_pace.cls ≠ "java/lang/invoke/MethodHandle" ∧ yX8_pace.cls ≠ "java/lang/invoke/VarHandle" ∧ (parseMethodDescriptor yX8_pace.desc).map (fun d => d.parameters.length) = some 1 := ⟨rfl, by decide +kernel, by decide +kernel, by decide +kernel⟩
set_option maxHeartbeats 4000000 in
set_option maxRecDepth 100000 in
theorem lc_pace {p : Program} {l : Launch} {e : Env} {s : State} {m : MethodId} {args : Array Value} {below : List Frame} {meth : Method} {c : Code} {Q : State → Prop} {D : va_G} {cI cJ cZ cR : ClassId} {qx qm : Nat → Nat} {b L : Nat} {xs : Nat → Int32} {w d : Nat} {xi : Nat → Int} {xa : Nat → Nat → Int} {mi : Nat → Int} {ma : Nat → Nat → Int} {i : Int} (hqx : qOk 31 qx) (hqm : qOk 18 qm) (hXO : XOk w d xi xa) (hMO : MOk mi ma) (hv : vX w xi xa = vM mi ma) (hi : 0 ≤ i ∧ i + 7 ≤ (L : Int)) (kk : ∀ (w' d' : Nat) (xi' : Nat → Int) (xa' : Nat → Nat → Int) (mi' : Nat → Int) (ma' : Nat → Nat → Int), XOk w' d' xi' xa' → MOk mi' ma' → vX w' xi' xa' = vM mi' ma' → VV p l e room_1 s m args below meth c Q 49 3256 cL_law 4 RL wsL_law D vwCl (tysC cI cJ cZ cR) 31 qx 18 qm b L xs (cX cI cJ cZ cR qx w' d' xi' xa') (cM cI cJ cZ qm mi' ma') 1191 [(3, .int (iI i)), (2, .ref (qm 0)), (1, .ref (qx 0)), (0, .ref b)] []) : VV p l e room_1 s m args below meth c Q 49 3256 cL_law 4 RL wsL_law D vwCl (tysC cI cJ cZ cR) 31 qx 18 qm b L xs (cX cI cJ cZ cR qx w d xi xa) (cM cI cJ cZ qm mi ma) 242 [(3, .int (iI i)), (2, .ref (qm 0)), (1, .ref (qx 0)), (0, .ref b)] [] := by
  refine v_aload_n (j := 2) dL_law_242 rfl rfl ?_
  refine v_aload_n (j := 3) dL_law_243 rfl rfl ?_
  refine v_iload_n (j := 0) dL_law_244 rfl rfl ?_
  refine v_iconst dL_law_245 ?_
  refine v_iadd dL_law_246 ?_
  refine v_sld dL_law_247 (by omega) (by omega) ?_
  refine v_call1i (i := 0) (ci := 7) (As := [.int (iI (sx xs (i + 1).toNat))]) (rest := []) (c_X7_pace hqx hXO (sx_rng _ _)) dL_law_248 gL_law_X7_pace rfl cd_X7_pace ⟨Nat.le_of_ble_eq_true rfl, Nat.le_of_ble_eq_true rfl⟩ rfl rfl (by decide) rfl rfl rfl (Nat.le_of_ble_eq_true rfl) ⟨Nat.le_of_ble_eq_true rfl, Nat.le_of_ble_eq_true rfl⟩ (fun r1 g1 hp1 => ?_)
  obtain ⟨e1, xi', he1, rfl, rfl⟩ := hp1
  refine v_aload_n (j := 1) dL_law_251 rfl rfl ?_
  refine v_aload_n (j := 3) dL_law_252 rfl rfl ?_
  refine v_iload_n (j := 0) dL_law_253 rfl rfl ?_
  refine v_iconst dL_law_254 ?_
  refine v_iadd dL_law_255 ?_
  refine v_sld dL_law_256 (by omega) (by omega) ?_
  refine v_call2i (i := 0) (ci := 8) (As := [.int (iI (sx xs (i + 1).toNat))]) (rest := [.int (iI e1)]) (c_X8_pace hqm hMO (sx_rng _ _)) dL_law_257 gL_law_X8_pace rfl cd_X8_pace ⟨Nat.le_of_ble_eq_true rfl, Nat.le_of_ble_eq_true rfl⟩ rfl rfl (by decide) rfl rfl rfl (Nat.le_of_ble_eq_true rfl) ⟨Nat.le_of_ble_eq_true rfl, Nat.le_of_ble_eq_true rfl⟩ (fun r2 g2 hp2 => ?_)
  obtain ⟨e2, mi', he2, rfl, rfl⟩ := hp2
  obtain ⟨hs1, hXn⟩ := he1
  obtain ⟨hs2, hMn⟩ := he2
  rw [← hv] at hs2
  obtain ⟨hee, hvv⟩ := dt_pace hs2 hs1
  have hvv := hvv.symm
  rw [hee]
  refine v_icmp_same (tgt := 1191) dL_law_260 (by decide) ?_
  exact kk w d xi' xa mi' ma hXn hMn hvv
theorem cd_X7_bridge : yX7_bridge.cls = RX7 ∧ yX7_bridge.cls ≠ "java/lang/invoke/MethodHandle" ∧ yX7_bridge.cls ≠ "java/lang/invoke/VarHandle" ∧ (parseMethodDescriptor yX7_bridge.desc).map (fun d => d.parameters.length) = some 2 := ⟨rfl, by decide +kernel, by decide +kernel, by decide +kernel⟩
theorem cd_X8_bridge : yX8_bridge.cls = RX8 ∧ yX8_bridge.cls ≠ "java/lang/invoke/MethodHandle" ∧ yX8_bridge.cls ≠ "java/lang/invoke/VarHandle" ∧ (parseMethodDescriptor yX8_bridge.desc).map (fun d => d.parameters.length) = some 2 := ⟨rfl, by decide +kernel, by decide +kernel, by decide +kernel⟩
set_option maxHeartbeats 4000000 in
set_option maxRecDepth 100000 in
theorem lc_bridge {p : Program} {l : Launch} {e : Env} {s : State} {m : MethodId} {args : Array Value} {below : List Frame} {meth : Method} {c : Code} {Q : State → Prop} {D : va_G} {cI cJ cZ cR : ClassId} {qx qm : Nat → Nat} {b L : Nat} {xs : Nat → Int32} {w d : Nat} {xi : Nat → Int} {xa : Nat → Nat → Int} {mi : Nat → Int} {ma : Nat → Nat → Int} {i : Int} (hqx : qOk 31 qx) (hqm : qOk 18 qm) (hXO : XOk w d xi xa) (hMO : MOk mi ma) (hv : vX w xi xa = vM mi ma) (hi : 0 ≤ i ∧ i + 7 ≤ (L : Int)) (kk : ∀ (w' d' : Nat) (xi' : Nat → Int) (xa' : Nat → Nat → Int) (mi' : Nat → Int) (ma' : Nat → Nat → Int), XOk w' d' xi' xa' → MOk mi' ma' → vX w' xi' xa' = vM mi' ma' → VV p l e room_1 s m args below meth c Q 49 3256 cL_law 4 RL wsL_law D vwCl (tysC cI cJ cZ cR) 31 qx 18 qm b L xs (cX cI cJ cZ cR qx w' d' xi' xa') (cM cI cJ cZ qm mi' ma') 1191 [(3, .int (iI i)), (2, .ref (qm 0)), (1, .ref (qx 0)), (0, .ref b)] []) : VV p l e room_1 s m args below meth c Q 49 3256 cL_law 4 RL wsL_law D vwCl (tysC cI cJ cZ cR) 31 qx 18 qm b L xs (cX cI cJ cZ cR qx w d xi xa) (cM cI cJ cZ qm mi ma) 265 [(3, .int (iI i)), (2, .ref (qm 0)), (1, .ref (qx 0)), (0, .ref b)] [] := by
  refine v_aload_n (j := 2) dL_law_265 rfl rfl ?_
  refine v_aload_n (j := 3) dL_law_266 rfl rfl ?_
  refine v_iload_n (j := 0) dL_law_267 rfl rfl ?_
  refine v_iconst dL_law_268 ?_
  refine v_iadd dL_law_269 ?_
  refine v_sld dL_law_270 (by omega) (by omega) ?_
  refine v_aload_n (j := 3) dL_law_271 rfl rfl ?_
  refine v_iload_n (j := 0) dL_law_272 rfl rfl ?_
  refine v_iconst dL_law_273 ?_
  refine v_iadd dL_law_274 ?_
  refine v_sld dL_law_275 (by omega) (by omega) ?_
  refine v_if_eq (tgt := 283) dL_law_276 (by decide) (sx_rng _ _) (fun c_276 => ?_) (fun c_276 => ?_)
  · refine v_iconst dL_law_283 ?_
    refine v_call1i (i := 0) (ci := 7) (As := [.int (iI (sx xs (i + 1).toNat)), .int (iI 0)]) (rest := []) (c_X7_bridge hqx hXO (sx_rng _ _) (Or.inl rfl)) dL_law_284 gL_law_X7_bridge rfl cd_X7_bridge ⟨Nat.le_of_ble_eq_true rfl, Nat.le_of_ble_eq_true rfl⟩ rfl rfl (by decide) rfl rfl rfl (Nat.le_of_ble_eq_true rfl) ⟨Nat.le_of_ble_eq_true rfl, Nat.le_of_ble_eq_true rfl⟩ (fun r1 g1 hp1 => ?_)
    obtain ⟨e1, xi', xa', he1, rfl, rfl⟩ := hp1
    refine v_aload_n (j := 1) dL_law_287 rfl rfl ?_
    refine v_aload_n (j := 3) dL_law_288 rfl rfl ?_
    refine v_iload_n (j := 0) dL_law_289 rfl rfl ?_
    refine v_iconst dL_law_290 ?_
    refine v_iadd dL_law_291 ?_
    refine v_sld dL_law_292 (by omega) (by omega) ?_
    refine v_aload_n (j := 3) dL_law_293 rfl rfl ?_
    refine v_iload_n (j := 0) dL_law_294 rfl rfl ?_
    refine v_iconst dL_law_295 ?_
    refine v_iadd dL_law_296 ?_
    refine v_sld dL_law_297 (by omega) (by omega) ?_
    refine v_if_eq (tgt := 305) dL_law_298 (by decide) (sx_rng _ _) (fun c_298 => ?_) (fun c_298 => ?_)
    · refine v_iconst dL_law_305 ?_
      refine v_call2i (i := 0) (ci := 8) (As := [.int (iI (sx xs (i + 1).toNat)), .int (iI 0)]) (rest := [.int (iI e1)]) (c_X8_bridge hqm hMO (sx_rng _ _) (Or.inl rfl)) dL_law_306 gL_law_X8_bridge rfl cd_X8_bridge ⟨Nat.le_of_ble_eq_true rfl, Nat.le_of_ble_eq_true rfl⟩ rfl rfl (by decide) rfl rfl rfl (Nat.le_of_ble_eq_true rfl) ⟨Nat.le_of_ble_eq_true rfl, Nat.le_of_ble_eq_true rfl⟩ (fun r2 g2 hp2 => ?_)
      obtain ⟨e2, ma', he2, rfl, rfl⟩ := hp2
      obtain ⟨hs1, hXn⟩ := he1
      obtain ⟨hs2, hMn⟩ := he2
      rw [← hv] at hs2
      obtain ⟨hee, hvv⟩ := dt_bridge hs2 hs1
      have hvv := hvv.symm
      rw [hee]
      refine v_icmp_same (tgt := 1191) dL_law_309 (by decide) ?_
      exact kk w d xi' xa' mi ma' hXn hMn hvv
    · exact absurd c_276 c_298
  · refine v_iconst dL_law_279 ?_
    refine v_goto (tgt := 284) dL_law_280 (by decide) ?_
    refine v_call1i (i := 0) (ci := 7) (As := [.int (iI (sx xs (i + 1).toNat)), .int (iI 1)]) (rest := []) (c_X7_bridge hqx hXO (sx_rng _ _) (Or.inr rfl)) dL_law_284 gL_law_X7_bridge rfl cd_X7_bridge ⟨Nat.le_of_ble_eq_true rfl, Nat.le_of_ble_eq_true rfl⟩ rfl rfl (by decide) rfl rfl rfl (Nat.le_of_ble_eq_true rfl) ⟨Nat.le_of_ble_eq_true rfl, Nat.le_of_ble_eq_true rfl⟩ (fun r1 g1 hp1 => ?_)
    obtain ⟨e1, xi', xa', he1, rfl, rfl⟩ := hp1
    refine v_aload_n (j := 1) dL_law_287 rfl rfl ?_
    refine v_aload_n (j := 3) dL_law_288 rfl rfl ?_
    refine v_iload_n (j := 0) dL_law_289 rfl rfl ?_
    refine v_iconst dL_law_290 ?_
    refine v_iadd dL_law_291 ?_
    refine v_sld dL_law_292 (by omega) (by omega) ?_
    refine v_aload_n (j := 3) dL_law_293 rfl rfl ?_
    refine v_iload_n (j := 0) dL_law_294 rfl rfl ?_
    refine v_iconst dL_law_295 ?_
    refine v_iadd dL_law_296 ?_
    refine v_sld dL_law_297 (by omega) (by omega) ?_
    refine v_if_eq (tgt := 305) dL_law_298 (by decide) (sx_rng _ _) (fun c_298 => ?_) (fun c_298 => ?_)
    · exact absurd c_298 c_276
    · refine v_iconst dL_law_301 ?_
      refine v_goto (tgt := 306) dL_law_302 (by decide) ?_
      refine v_call2i (i := 0) (ci := 8) (As := [.int (iI (sx xs (i + 1).toNat)), .int (iI 1)]) (rest := [.int (iI e1)]) (c_X8_bridge hqm hMO (sx_rng _ _) (Or.inr rfl)) dL_law_306 gL_law_X8_bridge rfl cd_X8_bridge ⟨Nat.le_of_ble_eq_true rfl, Nat.le_of_ble_eq_true rfl⟩ rfl rfl (by decide) rfl rfl rfl (Nat.le_of_ble_eq_true rfl) ⟨Nat.le_of_ble_eq_true rfl, Nat.le_of_ble_eq_true rfl⟩ (fun r2 g2 hp2 => ?_)
      obtain ⟨e2, ma', he2, rfl, rfl⟩ := hp2
      obtain ⟨hs1, hXn⟩ := he1
      obtain ⟨hs2, hMn⟩ := he2
      rw [← hv] at hs2
      obtain ⟨hee, hvv⟩ := dt_bridge hs2 hs1
      have hvv := hvv.symm
      rw [hee]
      refine v_icmp_same (tgt := 1191) dL_law_309 (by decide) ?_
      exact kk w d xi' xa' mi ma' hXn hMn hvv
theorem cd_X7_plan : yX7_plan.cls = RX7 ∧ yX7_plan.cls ≠ "java/lang/invoke/MethodHandle" ∧ yX7_plan.cls ≠ "java/lang/invoke/VarHandle" ∧ (parseMethodDescriptor yX7_plan.desc).map (fun d => d.parameters.length) = some 5 := ⟨rfl, by decide +kernel, by decide +kernel, by decide +kernel⟩
theorem cd_X8_plan : yX8_plan.cls = RX8 ∧ yX8_plan.cls ≠ "java/lang/invoke/MethodHandle" ∧ yX8_plan.cls ≠ "java/lang/invoke/VarHandle" ∧ (parseMethodDescriptor yX8_plan.desc).map (fun d => d.parameters.length) = some 5 := ⟨rfl, by decide +kernel, by decide +kernel, by decide +kernel⟩
set_option maxHeartbeats 4000000 in
set_option maxRecDepth 100000 in
theorem lc_plan {p : Program} {l : Launch} {e : Env} {s : State} {m : MethodId} {args : Array Value} {below : List Frame} {meth : Method} {c : Code} {Q : State → Prop} {D : va_G} {cI cJ cZ cR : ClassId} {qx qm : Nat → Nat} {b L : Nat} {xs : Nat → Int32} {w d : Nat} {xi : Nat → Int} {xa : Nat → Nat → Int} {mi : Nat → Int} {ma : Nat → Nat → Int} {i : Int} (hqx : qOk 31 qx) (hqm : qOk 18 qm) (hXO : XOk w d xi xa) (hMO : MOk mi ma) (hv : vX w xi xa = vM mi ma) (hi : 0 ≤ i ∧ i + 7 ≤ (L : Int)) (kk : ∀ (w' d' : Nat) (xi' : Nat → Int) (xa' : Nat → Nat → Int) (mi' : Nat → Int) (ma' : Nat → Nat → Int), XOk w' d' xi' xa' → MOk mi' ma' → vX w' xi' xa' = vM mi' ma' → VV p l e room_1 s m args below meth c Q 49 3256 cL_law 4 RL wsL_law D vwCl (tysC cI cJ cZ cR) 31 qx 18 qm b L xs (cX cI cJ cZ cR qx w' d' xi' xa') (cM cI cJ cZ qm mi' ma') 1191 [(3, .int (iI i)), (2, .ref (qm 0)), (1, .ref (qx 0)), (0, .ref b)] []) : VV p l e room_1 s m args below meth c Q 49 3256 cL_law 4 RL wsL_law D vwCl (tysC cI cJ cZ cR) 31 qx 18 qm b L xs (cX cI cJ cZ cR qx w d xi xa) (cM cI cJ cZ qm mi ma) 314 [(3, .int (iI i)), (2, .ref (qm 0)), (1, .ref (qx 0)), (0, .ref b)] [] := by
  refine v_aload_n (j := 2) dL_law_314 rfl rfl ?_
  refine v_aload_n (j := 3) dL_law_315 rfl rfl ?_
  refine v_iload_n (j := 0) dL_law_316 rfl rfl ?_
  refine v_iconst dL_law_317 ?_
  refine v_iadd dL_law_318 ?_
  refine v_sld dL_law_319 (by omega) (by omega) ?_
  refine v_aload_n (j := 3) dL_law_320 rfl rfl ?_
  refine v_iload_n (j := 0) dL_law_321 rfl rfl ?_
  refine v_iconst dL_law_322 ?_
  refine v_iadd dL_law_323 ?_
  refine v_sld dL_law_324 (by omega) (by omega) ?_
  refine v_aload_n (j := 3) dL_law_325 rfl rfl ?_
  refine v_iload_n (j := 0) dL_law_326 rfl rfl ?_
  refine v_iconst dL_law_327 ?_
  refine v_iadd dL_law_328 ?_
  refine v_sld dL_law_329 (by omega) (by omega) ?_
  refine v_aload_n (j := 3) dL_law_330 rfl rfl ?_
  refine v_iload_n (j := 0) dL_law_331 rfl rfl ?_
  refine v_iconst dL_law_332 ?_
  refine v_iadd dL_law_333 ?_
  refine v_sld dL_law_334 (by omega) (by omega) ?_
  refine v_aload_n (j := 3) dL_law_335 rfl rfl ?_
  refine v_iload_n (j := 0) dL_law_336 rfl rfl ?_
  refine v_iconst dL_law_337 ?_
  refine v_iadd dL_law_338 ?_
  refine v_sld dL_law_339 (by omega) (by omega) ?_
  refine v_call1i (i := 0) (ci := 7) (As := [.int (iI (sx xs (i + 1).toNat)), .int (iI (sx xs (i + 2).toNat)), .int (iI (sx xs (i + 3).toNat)), .int (iI (sx xs (i + 4).toNat)), .int (iI (sx xs (i + 5).toNat))]) (rest := []) (c_X7_plan hqx hXO (sx_rng _ _) (sx_rng _ _) (sx_rng _ _) (sx_rng _ _) (sx_rng _ _)) dL_law_340 gL_law_X7_plan rfl cd_X7_plan ⟨Nat.le_of_ble_eq_true rfl, Nat.le_of_ble_eq_true rfl⟩ rfl rfl (by decide) rfl rfl rfl (Nat.le_of_ble_eq_true rfl) ⟨Nat.le_of_ble_eq_true rfl, Nat.le_of_ble_eq_true rfl⟩ (fun r1 g1 hp1 => ?_)
  obtain ⟨e1, xi', xa', he1, rfl, rfl⟩ := hp1
  refine v_aload_n (j := 1) dL_law_343 rfl rfl ?_
  refine v_aload_n (j := 3) dL_law_344 rfl rfl ?_
  refine v_iload_n (j := 0) dL_law_345 rfl rfl ?_
  refine v_iconst dL_law_346 ?_
  refine v_iadd dL_law_347 ?_
  refine v_sld dL_law_348 (by omega) (by omega) ?_
  refine v_aload_n (j := 3) dL_law_349 rfl rfl ?_
  refine v_iload_n (j := 0) dL_law_350 rfl rfl ?_
  refine v_iconst dL_law_351 ?_
  refine v_iadd dL_law_352 ?_
  refine v_sld dL_law_353 (by omega) (by omega) ?_
  refine v_aload_n (j := 3) dL_law_354 rfl rfl ?_
  refine v_iload_n (j := 0) dL_law_355 rfl rfl ?_
  refine v_iconst dL_law_356 ?_
  refine v_iadd dL_law_357 ?_
  refine v_sld dL_law_358 (by omega) (by omega) ?_
  refine v_aload_n (j := 3) dL_law_359 rfl rfl ?_
  refine v_iload_n (j := 0) dL_law_360 rfl rfl ?_
  refine v_iconst dL_law_361 ?_
  refine v_iadd dL_law_362 ?_
  refine v_sld dL_law_363 (by omega) (by omega) ?_
  refine v_aload_n (j := 3) dL_law_364 rfl rfl ?_
  refine v_iload_n (j := 0) dL_law_365 rfl rfl ?_
  refine v_iconst dL_law_366 ?_
  refine v_iadd dL_law_367 ?_
  refine v_sld dL_law_368 (by omega) (by omega) ?_
  refine v_call2i (i := 0) (ci := 8) (As := [.int (iI (sx xs (i + 1).toNat)), .int (iI (sx xs (i + 2).toNat)), .int (iI (sx xs (i + 3).toNat)), .int (iI (sx xs (i + 4).toNat)), .int (iI (sx xs (i + 5).toNat))]) (rest := [.int (iI e1)]) (c_X8_plan hqm hMO (sx_rng _ _) (sx_rng _ _) (sx_rng _ _) (sx_rng _ _) (sx_rng _ _)) dL_law_369 gL_law_X8_plan rfl cd_X8_plan ⟨Nat.le_of_ble_eq_true rfl, Nat.le_of_ble_eq_true rfl⟩ rfl rfl (by decide) rfl rfl rfl (Nat.le_of_ble_eq_true rfl) ⟨Nat.le_of_ble_eq_true rfl, Nat.le_of_ble_eq_true rfl⟩ (fun r2 g2 hp2 => ?_)
  obtain ⟨e2, mi', he2, rfl, rfl⟩ := hp2
  obtain ⟨hs1, hXn⟩ := he1
  obtain ⟨hs2, hMn⟩ := he2
  rw [← hv] at hs2
  obtain ⟨hee, hvv⟩ := dt_plan hs2 hs1
  have hvv := hvv.symm
  rw [hee]
  refine v_icmp_same (tgt := 1191) dL_law_372 (by decide) ?_
  exact kk w d xi' xa' mi' ma hXn hMn hvv
theorem cd_X7_dry : yX7_dry.cls = RX7 ∧ yX7_dry.cls ≠ "java/lang/invoke/MethodHandle" ∧ yX7_dry.cls ≠ "java/lang/invoke/VarHandle" ∧ (parseMethodDescriptor yX7_dry.desc).map (fun d => d.parameters.length) = some 5 := ⟨rfl, by decide +kernel, by decide +kernel, by decide +kernel⟩
theorem cd_X8_dry : yX8_dry.cls = RX8 ∧ yX8_dry.cls ≠ "java/lang/invoke/MethodHandle" ∧ yX8_dry.cls ≠ "java/lang/invoke/VarHandle" ∧ (parseMethodDescriptor yX8_dry.desc).map (fun d => d.parameters.length) = some 5 := ⟨rfl, by decide +kernel, by decide +kernel, by decide +kernel⟩
set_option maxHeartbeats 4000000 in
set_option maxRecDepth 100000 in
theorem lc_dry {p : Program} {l : Launch} {e : Env} {s : State} {m : MethodId} {args : Array Value} {below : List Frame} {meth : Method} {c : Code} {Q : State → Prop} {D : va_G} {cI cJ cZ cR : ClassId} {qx qm : Nat → Nat} {b L : Nat} {xs : Nat → Int32} {w d : Nat} {xi : Nat → Int} {xa : Nat → Nat → Int} {mi : Nat → Int} {ma : Nat → Nat → Int} {i : Int} (hqx : qOk 31 qx) (hqm : qOk 18 qm) (hXO : XOk w d xi xa) (hMO : MOk mi ma) (hv : vX w xi xa = vM mi ma) (hi : 0 ≤ i ∧ i + 7 ≤ (L : Int)) (kk : ∀ (w' d' : Nat) (xi' : Nat → Int) (xa' : Nat → Nat → Int) (mi' : Nat → Int) (ma' : Nat → Nat → Int), XOk w' d' xi' xa' → MOk mi' ma' → vX w' xi' xa' = vM mi' ma' → VV p l e room_1 s m args below meth c Q 49 3256 cL_law 4 RL wsL_law D vwCl (tysC cI cJ cZ cR) 31 qx 18 qm b L xs (cX cI cJ cZ cR qx w' d' xi' xa') (cM cI cJ cZ qm mi' ma') 1191 [(3, .int (iI i)), (2, .ref (qm 0)), (1, .ref (qx 0)), (0, .ref b)] []) : VV p l e room_1 s m args below meth c Q 49 3256 cL_law 4 RL wsL_law D vwCl (tysC cI cJ cZ cR) 31 qx 18 qm b L xs (cX cI cJ cZ cR qx w d xi xa) (cM cI cJ cZ qm mi ma) 377 [(3, .int (iI i)), (2, .ref (qm 0)), (1, .ref (qx 0)), (0, .ref b)] [] := by
  refine v_aload_n (j := 2) dL_law_377 rfl rfl ?_
  refine v_aload_n (j := 3) dL_law_378 rfl rfl ?_
  refine v_iload_n (j := 0) dL_law_379 rfl rfl ?_
  refine v_iconst dL_law_380 ?_
  refine v_iadd dL_law_381 ?_
  refine v_sld dL_law_382 (by omega) (by omega) ?_
  refine v_aload_n (j := 3) dL_law_383 rfl rfl ?_
  refine v_iload_n (j := 0) dL_law_384 rfl rfl ?_
  refine v_iconst dL_law_385 ?_
  refine v_iadd dL_law_386 ?_
  refine v_sld dL_law_387 (by omega) (by omega) ?_
  refine v_aload_n (j := 3) dL_law_388 rfl rfl ?_
  refine v_iload_n (j := 0) dL_law_389 rfl rfl ?_
  refine v_iconst dL_law_390 ?_
  refine v_iadd dL_law_391 ?_
  refine v_sld dL_law_392 (by omega) (by omega) ?_
  refine v_aload_n (j := 3) dL_law_393 rfl rfl ?_
  refine v_iload_n (j := 0) dL_law_394 rfl rfl ?_
  refine v_iconst dL_law_395 ?_
  refine v_iadd dL_law_396 ?_
  refine v_sld dL_law_397 (by omega) (by omega) ?_
  refine v_aload_n (j := 3) dL_law_398 rfl rfl ?_
  refine v_iload_n (j := 0) dL_law_399 rfl rfl ?_
  refine v_iconst dL_law_400 ?_
  refine v_iadd dL_law_401 ?_
  refine v_sld dL_law_402 (by omega) (by omega) ?_
  refine v_call1l (i := 0) (ci := 7) (As := [.int (iI (sx xs (i + 1).toNat)), .int (iI (sx xs (i + 2).toNat)), .int (iI (sx xs (i + 3).toNat)), .int (iI (sx xs (i + 4).toNat)), .int (iI (sx xs (i + 5).toNat))]) (rest := []) (c_X7_dry hqx hXO (sx_rng _ _) (sx_rng _ _) (sx_rng _ _) (sx_rng _ _) (sx_rng _ _)) dL_law_403 gL_law_X7_dry rfl cd_X7_dry ⟨Nat.le_of_ble_eq_true rfl, Nat.le_of_ble_eq_true rfl⟩ rfl rfl (by decide) rfl rfl rfl (Nat.le_of_ble_eq_true rfl) ⟨Nat.le_of_ble_eq_true rfl, Nat.le_of_ble_eq_true rfl⟩ (fun r1 g1 hp1 => ?_)
  obtain ⟨e1, xi', xa', he1, rfl, rfl⟩ := hp1
  refine v_aload_n (j := 1) dL_law_406 rfl rfl ?_
  refine v_aload_n (j := 3) dL_law_407 rfl rfl ?_
  refine v_iload_n (j := 0) dL_law_408 rfl rfl ?_
  refine v_iconst dL_law_409 ?_
  refine v_iadd dL_law_410 ?_
  refine v_sld dL_law_411 (by omega) (by omega) ?_
  refine v_aload_n (j := 3) dL_law_412 rfl rfl ?_
  refine v_iload_n (j := 0) dL_law_413 rfl rfl ?_
  refine v_iconst dL_law_414 ?_
  refine v_iadd dL_law_415 ?_
  refine v_sld dL_law_416 (by omega) (by omega) ?_
  refine v_aload_n (j := 3) dL_law_417 rfl rfl ?_
  refine v_iload_n (j := 0) dL_law_418 rfl rfl ?_
  refine v_iconst dL_law_419 ?_
  refine v_iadd dL_law_420 ?_
  refine v_sld dL_law_421 (by omega) (by omega) ?_
  refine v_aload_n (j := 3) dL_law_422 rfl rfl ?_
  refine v_iload_n (j := 0) dL_law_423 rfl rfl ?_
  refine v_iconst dL_law_424 ?_
  refine v_iadd dL_law_425 ?_
  refine v_sld dL_law_426 (by omega) (by omega) ?_
  refine v_aload_n (j := 3) dL_law_427 rfl rfl ?_
  refine v_iload_n (j := 0) dL_law_428 rfl rfl ?_
  refine v_iconst dL_law_429 ?_
  refine v_iadd dL_law_430 ?_
  refine v_sld dL_law_431 (by omega) (by omega) ?_
  refine v_call2l (i := 0) (ci := 8) (As := [.int (iI (sx xs (i + 1).toNat)), .int (iI (sx xs (i + 2).toNat)), .int (iI (sx xs (i + 3).toNat)), .int (iI (sx xs (i + 4).toNat)), .int (iI (sx xs (i + 5).toNat))]) (rest := [.long (lI e1)]) (c_X8_dry hqm hMO (sx_rng _ _) (sx_rng _ _) (sx_rng _ _) (sx_rng _ _) (sx_rng _ _)) dL_law_432 gL_law_X8_dry rfl cd_X8_dry ⟨Nat.le_of_ble_eq_true rfl, Nat.le_of_ble_eq_true rfl⟩ rfl rfl (by decide) rfl rfl rfl (Nat.le_of_ble_eq_true rfl) ⟨Nat.le_of_ble_eq_true rfl, Nat.le_of_ble_eq_true rfl⟩ (fun r2 g2 hp2 => ?_)
  obtain ⟨e2, mi', he2, rfl, rfl⟩ := hp2
  obtain ⟨hs1, hXn⟩ := he1
  obtain ⟨hs2, hMn⟩ := he2
  rw [← hv] at hs2
  obtain ⟨hee, hvv⟩ := dt_dry hs2 hs1
  have hvv := hvv.symm
  rw [hee]
  refine v_lcmp_same dL_law_435 ?_
  refine v_if_eq (tgt := 1191) dL_law_436 (by decide) (by decide) (fun _ => ?_) (fun h => absurd rfl h)
  exact kk w d xi' xa' mi' ma hXn hMn hvv
theorem cd_X7_soonest : yX7_soonest.cls = RX7 ∧ yX7_soonest.cls ≠ "java/lang/invoke/MethodHandle" ∧ yX7_soonest.cls ≠ "java/lang/invoke/VarHandle" ∧ (parseMethodDescriptor yX7_soonest.desc).map (fun d => d.parameters.length) = some 0 := ⟨rfl, by decide +kernel, by decide +kernel, by decide +kernel⟩
theorem cd_X8_soonest : yX8_soonest.cls = RX8 ∧ yX8_soonest.cls ≠ "java/lang/invoke/MethodHandle" ∧ yX8_soonest.cls ≠ "java/lang/invoke/VarHandle" ∧ (parseMethodDescriptor yX8_soonest.desc).map (fun d => d.parameters.length) = some 0 := ⟨rfl, by decide +kernel, by decide +kernel, by decide +kernel⟩
set_option maxHeartbeats 4000000 in
set_option maxRecDepth 100000 in
theorem lc_soonest {p : Program} {l : Launch} {e : Env} {s : State} {m : MethodId} {args : Array Value} {below : List Frame} {meth : Method} {c : Code} {Q : State → Prop} {D : va_G} {cI cJ cZ cR : ClassId} {qx qm : Nat → Nat} {b L : Nat} {xs : Nat → Int32} {w d : Nat} {xi : Nat → Int} {xa : Nat → Nat → Int} {mi : Nat → Int} {ma : Nat → Nat → Int} {i : Int} (hqx : qOk 31 qx) (hqm : qOk 18 qm) (hXO : XOk w d xi xa) (hMO : MOk mi ma) (hv : vX w xi xa = vM mi ma) (hi : 0 ≤ i ∧ i + 7 ≤ (L : Int)) (kk : ∀ (w' d' : Nat) (xi' : Nat → Int) (xa' : Nat → Nat → Int) (mi' : Nat → Int) (ma' : Nat → Nat → Int), XOk w' d' xi' xa' → MOk mi' ma' → vX w' xi' xa' = vM mi' ma' → VV p l e room_1 s m args below meth c Q 49 3256 cL_law 4 RL wsL_law D vwCl (tysC cI cJ cZ cR) 31 qx 18 qm b L xs (cX cI cJ cZ cR qx w' d' xi' xa') (cM cI cJ cZ qm mi' ma') 1191 [(3, .int (iI i)), (2, .ref (qm 0)), (1, .ref (qx 0)), (0, .ref b)] []) : VV p l e room_1 s m args below meth c Q 49 3256 cL_law 4 RL wsL_law D vwCl (tysC cI cJ cZ cR) 31 qx 18 qm b L xs (cX cI cJ cZ cR qx w d xi xa) (cM cI cJ cZ qm mi ma) 441 [(3, .int (iI i)), (2, .ref (qm 0)), (1, .ref (qx 0)), (0, .ref b)] [] := by
  refine v_aload_n (j := 2) dL_law_441 rfl rfl ?_
  refine v_call1i (i := 0) (ci := 7) (As := []) (rest := []) (c_X7_soonest hqx hXO) dL_law_442 gL_law_X7_soonest rfl cd_X7_soonest ⟨Nat.le_of_ble_eq_true rfl, Nat.le_of_ble_eq_true rfl⟩ rfl rfl (by decide) rfl rfl rfl (Nat.le_of_ble_eq_true rfl) ⟨Nat.le_of_ble_eq_true rfl, Nat.le_of_ble_eq_true rfl⟩ (fun r1 g1 hp1 => ?_)
  obtain ⟨⟨e1, he1, rfl⟩, rfl⟩ := hp1
  refine v_aload_n (j := 1) dL_law_445 rfl rfl ?_
  refine v_call2i (i := 0) (ci := 8) (As := []) (rest := [.int (iI e1)]) (c_X8_soonest hqm hMO) dL_law_446 gL_law_X8_soonest rfl cd_X8_soonest ⟨Nat.le_of_ble_eq_true rfl, Nat.le_of_ble_eq_true rfl⟩ rfl rfl (by decide) rfl rfl rfl (Nat.le_of_ble_eq_true rfl) ⟨Nat.le_of_ble_eq_true rfl, Nat.le_of_ble_eq_true rfl⟩ (fun r2 g2 hp2 => ?_)
  obtain ⟨e2, ma', he2, rfl, rfl⟩ := hp2
  have hs1 := he1
  have hsx : vX w xi xa = vX w xi xa := rfl
  have hXn := hXO
  obtain ⟨hs2, hsm, hMn⟩ := he2
  rw [← hv] at hs2
  have hee := dt_soonest hs2 hs1
  have hvv := hsx.trans (hv.trans hsm.symm)
  rw [hee]
  refine v_icmp_same (tgt := 1191) dL_law_449 (by decide) ?_
  exact kk w d xi xa mi ma' hXn hMn hvv
theorem cd_X7_surest : yX7_surest.cls = RX7 ∧ yX7_surest.cls ≠ "java/lang/invoke/MethodHandle" ∧ yX7_surest.cls ≠ "java/lang/invoke/VarHandle" ∧ (parseMethodDescriptor yX7_surest.desc).map (fun d => d.parameters.length) = some 2 := ⟨rfl, by decide +kernel, by decide +kernel, by decide +kernel⟩
theorem cd_X8_surest : yX8_surest.cls = RX8 ∧ yX8_surest.cls ≠ "java/lang/invoke/MethodHandle" ∧ yX8_surest.cls ≠ "java/lang/invoke/VarHandle" ∧ (parseMethodDescriptor yX8_surest.desc).map (fun d => d.parameters.length) = some 2 := ⟨rfl, by decide +kernel, by decide +kernel, by decide +kernel⟩
set_option maxHeartbeats 4000000 in
set_option maxRecDepth 100000 in
theorem lc_surest {p : Program} {l : Launch} {e : Env} {s : State} {m : MethodId} {args : Array Value} {below : List Frame} {meth : Method} {c : Code} {Q : State → Prop} {D : va_G} {cI cJ cZ cR : ClassId} {qx qm : Nat → Nat} {b L : Nat} {xs : Nat → Int32} {w d : Nat} {xi : Nat → Int} {xa : Nat → Nat → Int} {mi : Nat → Int} {ma : Nat → Nat → Int} {i : Int} (hqx : qOk 31 qx) (hqm : qOk 18 qm) (hXO : XOk w d xi xa) (hMO : MOk mi ma) (hv : vX w xi xa = vM mi ma) (hi : 0 ≤ i ∧ i + 7 ≤ (L : Int)) (kk : ∀ (w' d' : Nat) (xi' : Nat → Int) (xa' : Nat → Nat → Int) (mi' : Nat → Int) (ma' : Nat → Nat → Int), XOk w' d' xi' xa' → MOk mi' ma' → vX w' xi' xa' = vM mi' ma' → VV p l e room_1 s m args below meth c Q 49 3256 cL_law 4 RL wsL_law D vwCl (tysC cI cJ cZ cR) 31 qx 18 qm b L xs (cX cI cJ cZ cR qx w' d' xi' xa') (cM cI cJ cZ qm mi' ma') 1191 [(3, .int (iI i)), (2, .ref (qm 0)), (1, .ref (qx 0)), (0, .ref b)] []) : VV p l e room_1 s m args below meth c Q 49 3256 cL_law 4 RL wsL_law D vwCl (tysC cI cJ cZ cR) 31 qx 18 qm b L xs (cX cI cJ cZ cR qx w d xi xa) (cM cI cJ cZ qm mi ma) 454 [(3, .int (iI i)), (2, .ref (qm 0)), (1, .ref (qx 0)), (0, .ref b)] [] := by
  refine v_aload_n (j := 2) dL_law_454 rfl rfl ?_
  refine v_aload_n (j := 3) dL_law_455 rfl rfl ?_
  refine v_iload_n (j := 0) dL_law_456 rfl rfl ?_
  refine v_iconst dL_law_457 ?_
  refine v_iadd dL_law_458 ?_
  refine v_sld dL_law_459 (by omega) (by omega) ?_
  refine v_aload_n (j := 3) dL_law_460 rfl rfl ?_
  refine v_iload_n (j := 0) dL_law_461 rfl rfl ?_
  refine v_iconst dL_law_462 ?_
  refine v_iadd dL_law_463 ?_
  refine v_sld dL_law_464 (by omega) (by omega) ?_
  refine v_call1i (i := 0) (ci := 7) (As := [.int (iI (sx xs (i + 1).toNat)), .int (iI (sx xs (i + 2).toNat))]) (rest := []) (c_X7_surest hqx hXO (sx_rng _ _) (sx_rng _ _)) dL_law_465 gL_law_X7_surest rfl cd_X7_surest ⟨Nat.le_of_ble_eq_true rfl, Nat.le_of_ble_eq_true rfl⟩ rfl rfl (by decide) rfl rfl rfl (Nat.le_of_ble_eq_true rfl) ⟨Nat.le_of_ble_eq_true rfl, Nat.le_of_ble_eq_true rfl⟩ (fun r1 g1 hp1 => ?_)
  obtain ⟨e1, xi', xa', he1, rfl, rfl⟩ := hp1
  refine v_aload_n (j := 1) dL_law_468 rfl rfl ?_
  refine v_aload_n (j := 3) dL_law_469 rfl rfl ?_
  refine v_iload_n (j := 0) dL_law_470 rfl rfl ?_
  refine v_iconst dL_law_471 ?_
  refine v_iadd dL_law_472 ?_
  refine v_sld dL_law_473 (by omega) (by omega) ?_
  refine v_aload_n (j := 3) dL_law_474 rfl rfl ?_
  refine v_iload_n (j := 0) dL_law_475 rfl rfl ?_
  refine v_iconst dL_law_476 ?_
  refine v_iadd dL_law_477 ?_
  refine v_sld dL_law_478 (by omega) (by omega) ?_
  refine v_call2i (i := 0) (ci := 8) (As := [.int (iI (sx xs (i + 1).toNat)), .int (iI (sx xs (i + 2).toNat))]) (rest := [.int (iI e1)]) (c_X8_surest hqm hMO (sx_rng _ _) (sx_rng _ _)) dL_law_479 gL_law_X8_surest rfl cd_X8_surest ⟨Nat.le_of_ble_eq_true rfl, Nat.le_of_ble_eq_true rfl⟩ rfl rfl (by decide) rfl rfl rfl (Nat.le_of_ble_eq_true rfl) ⟨Nat.le_of_ble_eq_true rfl, Nat.le_of_ble_eq_true rfl⟩ (fun r2 g2 hp2 => ?_)
  obtain ⟨e2, ma', he2, rfl, rfl⟩ := hp2
  obtain ⟨hs1, hsx, hXn⟩ := he1
  obtain ⟨hs2, hsm, hMn⟩ := he2
  rw [← hv] at hs2
  have hee := dt_surest hs2 hs1
  have hvv := hsx.trans (hv.trans hsm.symm)
  rw [hee]
  refine v_icmp_same (tgt := 1191) dL_law_482 (by decide) ?_
  exact kk w d xi' xa' mi ma' hXn hMn hvv
theorem cd_X7_sure : yX7_sure.cls = RX7 ∧ yX7_sure.cls ≠ "java/lang/invoke/MethodHandle" ∧ yX7_sure.cls ≠ "java/lang/invoke/VarHandle" ∧ (parseMethodDescriptor yX7_sure.desc).map (fun d => d.parameters.length) = some 2 := ⟨rfl, by decide +kernel, by decide +kernel, by decide +kernel⟩
theorem cd_X8_sure : yX8_sure.cls = RX8 ∧ yX8_sure.cls ≠ "java/lang/invoke/MethodHandle" ∧ yX8_sure.cls ≠ "java/lang/invoke/VarHandle" ∧ (parseMethodDescriptor yX8_sure.desc).map (fun d => d.parameters.length) = some 2 := ⟨rfl, by decide +kernel, by decide +kernel, by decide +kernel⟩
set_option maxHeartbeats 4000000 in
set_option maxRecDepth 100000 in
theorem lc_sure {p : Program} {l : Launch} {e : Env} {s : State} {m : MethodId} {args : Array Value} {below : List Frame} {meth : Method} {c : Code} {Q : State → Prop} {D : va_G} {cI cJ cZ cR : ClassId} {qx qm : Nat → Nat} {b L : Nat} {xs : Nat → Int32} {w d : Nat} {xi : Nat → Int} {xa : Nat → Nat → Int} {mi : Nat → Int} {ma : Nat → Nat → Int} {i : Int} (hqx : qOk 31 qx) (hqm : qOk 18 qm) (hXO : XOk w d xi xa) (hMO : MOk mi ma) (hv : vX w xi xa = vM mi ma) (hi : 0 ≤ i ∧ i + 7 ≤ (L : Int)) (kk : ∀ (w' d' : Nat) (xi' : Nat → Int) (xa' : Nat → Nat → Int) (mi' : Nat → Int) (ma' : Nat → Nat → Int), XOk w' d' xi' xa' → MOk mi' ma' → vX w' xi' xa' = vM mi' ma' → VV p l e room_1 s m args below meth c Q 49 3256 cL_law 4 RL wsL_law D vwCl (tysC cI cJ cZ cR) 31 qx 18 qm b L xs (cX cI cJ cZ cR qx w' d' xi' xa') (cM cI cJ cZ qm mi' ma') 1191 [(3, .int (iI i)), (2, .ref (qm 0)), (1, .ref (qx 0)), (0, .ref b)] []) : VV p l e room_1 s m args below meth c Q 49 3256 cL_law 4 RL wsL_law D vwCl (tysC cI cJ cZ cR) 31 qx 18 qm b L xs (cX cI cJ cZ cR qx w d xi xa) (cM cI cJ cZ qm mi ma) 487 [(3, .int (iI i)), (2, .ref (qm 0)), (1, .ref (qx 0)), (0, .ref b)] [] := by
  refine v_aload_n (j := 2) dL_law_487 rfl rfl ?_
  refine v_aload_n (j := 3) dL_law_488 rfl rfl ?_
  refine v_iload_n (j := 0) dL_law_489 rfl rfl ?_
  refine v_iconst dL_law_490 ?_
  refine v_iadd dL_law_491 ?_
  refine v_sld dL_law_492 (by omega) (by omega) ?_
  refine v_aload_n (j := 3) dL_law_493 rfl rfl ?_
  refine v_iload_n (j := 0) dL_law_494 rfl rfl ?_
  refine v_iconst dL_law_495 ?_
  refine v_iadd dL_law_496 ?_
  refine v_sld dL_law_497 (by omega) (by omega) ?_
  refine v_call1l (i := 0) (ci := 7) (As := [.int (iI (sx xs (i + 1).toNat)), .int (iI (sx xs (i + 2).toNat))]) (rest := []) (c_X7_sure hqx hXO (sx_rng _ _) (sx_rng _ _)) dL_law_498 gL_law_X7_sure rfl cd_X7_sure ⟨Nat.le_of_ble_eq_true rfl, Nat.le_of_ble_eq_true rfl⟩ rfl rfl (by decide) rfl rfl rfl (Nat.le_of_ble_eq_true rfl) ⟨Nat.le_of_ble_eq_true rfl, Nat.le_of_ble_eq_true rfl⟩ (fun r1 g1 hp1 => ?_)
  obtain ⟨e1, xi', xa', he1, rfl, rfl⟩ := hp1
  refine v_aload_n (j := 1) dL_law_501 rfl rfl ?_
  refine v_aload_n (j := 3) dL_law_502 rfl rfl ?_
  refine v_iload_n (j := 0) dL_law_503 rfl rfl ?_
  refine v_iconst dL_law_504 ?_
  refine v_iadd dL_law_505 ?_
  refine v_sld dL_law_506 (by omega) (by omega) ?_
  refine v_aload_n (j := 3) dL_law_507 rfl rfl ?_
  refine v_iload_n (j := 0) dL_law_508 rfl rfl ?_
  refine v_iconst dL_law_509 ?_
  refine v_iadd dL_law_510 ?_
  refine v_sld dL_law_511 (by omega) (by omega) ?_
  refine v_call2l (i := 0) (ci := 8) (As := [.int (iI (sx xs (i + 1).toNat)), .int (iI (sx xs (i + 2).toNat))]) (rest := [.long (lI e1)]) (c_X8_sure hqm hMO (sx_rng _ _) (sx_rng _ _)) dL_law_512 gL_law_X8_sure rfl cd_X8_sure ⟨Nat.le_of_ble_eq_true rfl, Nat.le_of_ble_eq_true rfl⟩ rfl rfl (by decide) rfl rfl rfl (Nat.le_of_ble_eq_true rfl) ⟨Nat.le_of_ble_eq_true rfl, Nat.le_of_ble_eq_true rfl⟩ (fun r2 g2 hp2 => ?_)
  obtain ⟨e2, ma', he2, rfl, rfl⟩ := hp2
  obtain ⟨hs1, hsx, hXn⟩ := he1
  obtain ⟨hs2, hsm, hMn⟩ := he2
  rw [← hv] at hs2
  have hee := dt_sure hs2 hs1
  have hvv := hsx.trans (hv.trans hsm.symm)
  rw [hee]
  refine v_lcmp_same dL_law_515 ?_
  refine v_if_eq (tgt := 1191) dL_law_516 (by decide) (by decide) (fun _ => ?_) (fun h => absurd rfl h)
  exact kk w d xi' xa' mi ma' hXn hMn hvv
theorem cd_X7_cost : yX7_cost.cls = RX7 ∧ yX7_cost.cls ≠ "java/lang/invoke/MethodHandle" ∧ yX7_cost.cls ≠ "java/lang/invoke/VarHandle" ∧ (parseMethodDescriptor yX7_cost.desc).map (fun d => d.parameters.length) = some 1 := ⟨rfl, by decide +kernel, by decide +kernel, by decide +kernel⟩
theorem cd_X8_cost : yX8_cost.cls = RX8 ∧ yX8_cost.cls ≠ "java/lang/invoke/MethodHandle" ∧ yX8_cost.cls ≠ "java/lang/invoke/VarHandle" ∧ (parseMethodDescriptor yX8_cost.desc).map (fun d => d.parameters.length) = some 1 := ⟨rfl, by decide +kernel, by decide +kernel, by decide +kernel⟩
set_option maxHeartbeats 4000000 in
set_option maxRecDepth 100000 in
theorem lc_cost {p : Program} {l : Launch} {e : Env} {s : State} {m : MethodId} {args : Array Value} {below : List Frame} {meth : Method} {c : Code} {Q : State → Prop} {D : va_G} {cI cJ cZ cR : ClassId} {qx qm : Nat → Nat} {b L : Nat} {xs : Nat → Int32} {w d : Nat} {xi : Nat → Int} {xa : Nat → Nat → Int} {mi : Nat → Int} {ma : Nat → Nat → Int} {i : Int} (hqx : qOk 31 qx) (hqm : qOk 18 qm) (hXO : XOk w d xi xa) (hMO : MOk mi ma) (hv : vX w xi xa = vM mi ma) (hi : 0 ≤ i ∧ i + 7 ≤ (L : Int)) (kk : ∀ (w' d' : Nat) (xi' : Nat → Int) (xa' : Nat → Nat → Int) (mi' : Nat → Int) (ma' : Nat → Nat → Int), XOk w' d' xi' xa' → MOk mi' ma' → vX w' xi' xa' = vM mi' ma' → VV p l e room_1 s m args below meth c Q 49 3256 cL_law 4 RL wsL_law D vwCl (tysC cI cJ cZ cR) 31 qx 18 qm b L xs (cX cI cJ cZ cR qx w' d' xi' xa') (cM cI cJ cZ qm mi' ma') 1191 [(3, .int (iI i)), (2, .ref (qm 0)), (1, .ref (qx 0)), (0, .ref b)] []) : VV p l e room_1 s m args below meth c Q 49 3256 cL_law 4 RL wsL_law D vwCl (tysC cI cJ cZ cR) 31 qx 18 qm b L xs (cX cI cJ cZ cR qx w d xi xa) (cM cI cJ cZ qm mi ma) 521 [(3, .int (iI i)), (2, .ref (qm 0)), (1, .ref (qx 0)), (0, .ref b)] [] := by
  refine v_aload_n (j := 2) dL_law_521 rfl rfl ?_
  refine v_aload_n (j := 3) dL_law_522 rfl rfl ?_
  refine v_iload_n (j := 0) dL_law_523 rfl rfl ?_
  refine v_iconst dL_law_524 ?_
  refine v_iadd dL_law_525 ?_
  refine v_sld dL_law_526 (by omega) (by omega) ?_
  refine v_call1i (i := 0) (ci := 7) (As := [.int (iI (sx xs (i + 1).toNat))]) (rest := []) (c_X7_cost hqx hXO (sx_rng _ _)) dL_law_527 gL_law_X7_cost rfl cd_X7_cost ⟨Nat.le_of_ble_eq_true rfl, Nat.le_of_ble_eq_true rfl⟩ rfl rfl (by decide) rfl rfl rfl (Nat.le_of_ble_eq_true rfl) ⟨Nat.le_of_ble_eq_true rfl, Nat.le_of_ble_eq_true rfl⟩ (fun r1 g1 hp1 => ?_)
  obtain ⟨e1, xa', he1, rfl, rfl⟩ := hp1
  refine v_aload_n (j := 1) dL_law_530 rfl rfl ?_
  refine v_aload_n (j := 3) dL_law_531 rfl rfl ?_
  refine v_iload_n (j := 0) dL_law_532 rfl rfl ?_
  refine v_iconst dL_law_533 ?_
  refine v_iadd dL_law_534 ?_
  refine v_sld dL_law_535 (by omega) (by omega) ?_
  refine v_call2i (i := 0) (ci := 8) (As := [.int (iI (sx xs (i + 1).toNat))]) (rest := [.int (iI e1)]) (c_X8_cost hqm hMO (sx_rng _ _)) dL_law_536 gL_law_X8_cost rfl cd_X8_cost ⟨Nat.le_of_ble_eq_true rfl, Nat.le_of_ble_eq_true rfl⟩ rfl rfl (by decide) rfl rfl rfl (Nat.le_of_ble_eq_true rfl) ⟨Nat.le_of_ble_eq_true rfl, Nat.le_of_ble_eq_true rfl⟩ (fun r2 g2 hp2 => ?_)
  obtain ⟨e2, ma', he2, rfl, rfl⟩ := hp2
  obtain ⟨hs1, hsx, hXn⟩ := he1
  obtain ⟨hs2, hsm, hMn⟩ := he2
  rw [← hv] at hs2
  have hee := dt_cost hs2 hs1
  have hvv := hsx.trans (hv.trans hsm.symm)
  rw [hee]
  refine v_icmp_same (tgt := 1191) dL_law_539 (by decide) ?_
  exact kk w d xi xa' mi ma' hXn hMn hvv
theorem cd_X7_reading : yX7_reading.cls = RX7 ∧ yX7_reading.cls ≠ "java/lang/invoke/MethodHandle" ∧ yX7_reading.cls ≠ "java/lang/invoke/VarHandle" ∧ (parseMethodDescriptor yX7_reading.desc).map (fun d => d.parameters.length) = some 2 := ⟨rfl, by decide +kernel, by decide +kernel, by decide +kernel⟩
theorem cd_X8_reading : yX8_reading.cls = RX8 ∧ yX8_reading.cls ≠ "java/lang/invoke/MethodHandle" ∧ yX8_reading.cls ≠ "java/lang/invoke/VarHandle" ∧ (parseMethodDescriptor yX8_reading.desc).map (fun d => d.parameters.length) = some 2 := ⟨rfl, by decide +kernel, by decide +kernel, by decide +kernel⟩
set_option maxHeartbeats 4000000 in
set_option maxRecDepth 100000 in
theorem lc_reading {p : Program} {l : Launch} {e : Env} {s : State} {m : MethodId} {args : Array Value} {below : List Frame} {meth : Method} {c : Code} {Q : State → Prop} {D : va_G} {cI cJ cZ cR : ClassId} {qx qm : Nat → Nat} {b L : Nat} {xs : Nat → Int32} {w d : Nat} {xi : Nat → Int} {xa : Nat → Nat → Int} {mi : Nat → Int} {ma : Nat → Nat → Int} {i : Int} (hqx : qOk 31 qx) (hqm : qOk 18 qm) (hXO : XOk w d xi xa) (hMO : MOk mi ma) (hv : vX w xi xa = vM mi ma) (hi : 0 ≤ i ∧ i + 7 ≤ (L : Int)) (kk : ∀ (w' d' : Nat) (xi' : Nat → Int) (xa' : Nat → Nat → Int) (mi' : Nat → Int) (ma' : Nat → Nat → Int), XOk w' d' xi' xa' → MOk mi' ma' → vX w' xi' xa' = vM mi' ma' → VV p l e room_1 s m args below meth c Q 49 3256 cL_law 4 RL wsL_law D vwCl (tysC cI cJ cZ cR) 31 qx 18 qm b L xs (cX cI cJ cZ cR qx w' d' xi' xa') (cM cI cJ cZ qm mi' ma') 1191 [(3, .int (iI i)), (2, .ref (qm 0)), (1, .ref (qx 0)), (0, .ref b)] []) : VV p l e room_1 s m args below meth c Q 49 3256 cL_law 4 RL wsL_law D vwCl (tysC cI cJ cZ cR) 31 qx 18 qm b L xs (cX cI cJ cZ cR qx w d xi xa) (cM cI cJ cZ qm mi ma) 544 [(3, .int (iI i)), (2, .ref (qm 0)), (1, .ref (qx 0)), (0, .ref b)] [] := by
  refine v_aload_n (j := 2) dL_law_544 rfl rfl ?_
  refine v_aload_n (j := 3) dL_law_545 rfl rfl ?_
  refine v_iload_n (j := 0) dL_law_546 rfl rfl ?_
  refine v_iconst dL_law_547 ?_
  refine v_iadd dL_law_548 ?_
  refine v_sld dL_law_549 (by omega) (by omega) ?_
  refine v_aload_n (j := 3) dL_law_550 rfl rfl ?_
  refine v_iload_n (j := 0) dL_law_551 rfl rfl ?_
  refine v_iconst dL_law_552 ?_
  refine v_iadd dL_law_553 ?_
  refine v_sld dL_law_554 (by omega) (by omega) ?_
  refine v_call1i (i := 0) (ci := 7) (As := [.int (iI (sx xs (i + 1).toNat)), .int (iI (sx xs (i + 2).toNat))]) (rest := []) (c_X7_reading hqx hXO (sx_rng _ _) (sx_rng _ _)) dL_law_555 gL_law_X7_reading rfl cd_X7_reading ⟨Nat.le_of_ble_eq_true rfl, Nat.le_of_ble_eq_true rfl⟩ rfl rfl (by decide) rfl rfl rfl (Nat.le_of_ble_eq_true rfl) ⟨Nat.le_of_ble_eq_true rfl, Nat.le_of_ble_eq_true rfl⟩ (fun r1 g1 hp1 => ?_)
  obtain ⟨e1, xi', xa', he1, rfl, rfl⟩ := hp1
  refine v_aload_n (j := 1) dL_law_558 rfl rfl ?_
  refine v_aload_n (j := 3) dL_law_559 rfl rfl ?_
  refine v_iload_n (j := 0) dL_law_560 rfl rfl ?_
  refine v_iconst dL_law_561 ?_
  refine v_iadd dL_law_562 ?_
  refine v_sld dL_law_563 (by omega) (by omega) ?_
  refine v_aload_n (j := 3) dL_law_564 rfl rfl ?_
  refine v_iload_n (j := 0) dL_law_565 rfl rfl ?_
  refine v_iconst dL_law_566 ?_
  refine v_iadd dL_law_567 ?_
  refine v_sld dL_law_568 (by omega) (by omega) ?_
  refine v_call2i (i := 0) (ci := 8) (As := [.int (iI (sx xs (i + 1).toNat)), .int (iI (sx xs (i + 2).toNat))]) (rest := [.int (iI e1)]) (c_X8_reading hqm hMO (sx_rng _ _) (sx_rng _ _)) dL_law_569 gL_law_X8_reading rfl cd_X8_reading ⟨Nat.le_of_ble_eq_true rfl, Nat.le_of_ble_eq_true rfl⟩ rfl rfl (by decide) rfl rfl rfl (Nat.le_of_ble_eq_true rfl) ⟨Nat.le_of_ble_eq_true rfl, Nat.le_of_ble_eq_true rfl⟩ (fun r2 g2 hp2 => ?_)
  obtain ⟨e2, mi', ma', he2, rfl, rfl⟩ := hp2
  obtain ⟨hs1, hXn⟩ := he1
  obtain ⟨hs2, hMn⟩ := he2
  rw [← hv] at hs2
  obtain ⟨hee, hvv⟩ := dt_reading hs2 hs1
  have hvv := hvv.symm
  rw [hee]
  refine v_icmp_same (tgt := 1191) dL_law_572 (by decide) ?_
  exact kk w d xi' xa' mi' ma' hXn hMn hvv
theorem cd_X7_back : yX7_back.cls = RX7 ∧ yX7_back.cls ≠ "java/lang/invoke/MethodHandle" ∧ yX7_back.cls ≠ "java/lang/invoke/VarHandle" ∧ (parseMethodDescriptor yX7_back.desc).map (fun d => d.parameters.length) = some 1 := ⟨rfl, by decide +kernel, by decide +kernel, by decide +kernel⟩
theorem cd_X8_back : yX8_back.cls = RX8 ∧ yX8_back.cls ≠ "java/lang/invoke/MethodHandle" ∧ yX8_back.cls ≠ "java/lang/invoke/VarHandle" ∧ (parseMethodDescriptor yX8_back.desc).map (fun d => d.parameters.length) = some 1 := ⟨rfl, by decide +kernel, by decide +kernel, by decide +kernel⟩
set_option maxHeartbeats 4000000 in
set_option maxRecDepth 100000 in
theorem lc_back {p : Program} {l : Launch} {e : Env} {s : State} {m : MethodId} {args : Array Value} {below : List Frame} {meth : Method} {c : Code} {Q : State → Prop} {D : va_G} {cI cJ cZ cR : ClassId} {qx qm : Nat → Nat} {b L : Nat} {xs : Nat → Int32} {w d : Nat} {xi : Nat → Int} {xa : Nat → Nat → Int} {mi : Nat → Int} {ma : Nat → Nat → Int} {i : Int} (hqx : qOk 31 qx) (hqm : qOk 18 qm) (hXO : XOk w d xi xa) (hMO : MOk mi ma) (hv : vX w xi xa = vM mi ma) (hi : 0 ≤ i ∧ i + 7 ≤ (L : Int)) (kk : ∀ (w' d' : Nat) (xi' : Nat → Int) (xa' : Nat → Nat → Int) (mi' : Nat → Int) (ma' : Nat → Nat → Int), XOk w' d' xi' xa' → MOk mi' ma' → vX w' xi' xa' = vM mi' ma' → VV p l e room_1 s m args below meth c Q 49 3256 cL_law 4 RL wsL_law D vwCl (tysC cI cJ cZ cR) 31 qx 18 qm b L xs (cX cI cJ cZ cR qx w' d' xi' xa') (cM cI cJ cZ qm mi' ma') 1191 [(3, .int (iI i)), (2, .ref (qm 0)), (1, .ref (qx 0)), (0, .ref b)] []) : VV p l e room_1 s m args below meth c Q 49 3256 cL_law 4 RL wsL_law D vwCl (tysC cI cJ cZ cR) 31 qx 18 qm b L xs (cX cI cJ cZ cR qx w d xi xa) (cM cI cJ cZ qm mi ma) 577 [(3, .int (iI i)), (2, .ref (qm 0)), (1, .ref (qx 0)), (0, .ref b)] [] := by
  refine v_aload_n (j := 2) dL_law_577 rfl rfl ?_
  refine v_aload_n (j := 3) dL_law_578 rfl rfl ?_
  refine v_iload_n (j := 0) dL_law_579 rfl rfl ?_
  refine v_iconst dL_law_580 ?_
  refine v_iadd dL_law_581 ?_
  refine v_sld dL_law_582 (by omega) (by omega) ?_
  refine v_call1i (i := 0) (ci := 7) (As := [.int (iI (sx xs (i + 1).toNat))]) (rest := []) (c_X7_back hqx hXO (sx_rng _ _)) dL_law_583 gL_law_X7_back rfl cd_X7_back ⟨Nat.le_of_ble_eq_true rfl, Nat.le_of_ble_eq_true rfl⟩ rfl rfl (by decide) rfl rfl rfl (Nat.le_of_ble_eq_true rfl) ⟨Nat.le_of_ble_eq_true rfl, Nat.le_of_ble_eq_true rfl⟩ (fun r1 g1 hp1 => ?_)
  obtain ⟨e1, xi', he1, rfl, rfl⟩ := hp1
  refine v_aload_n (j := 1) dL_law_586 rfl rfl ?_
  refine v_aload_n (j := 3) dL_law_587 rfl rfl ?_
  refine v_iload_n (j := 0) dL_law_588 rfl rfl ?_
  refine v_iconst dL_law_589 ?_
  refine v_iadd dL_law_590 ?_
  refine v_sld dL_law_591 (by omega) (by omega) ?_
  refine v_call2i (i := 0) (ci := 8) (As := [.int (iI (sx xs (i + 1).toNat))]) (rest := [.int (iI e1)]) (c_X8_back hqm hMO (sx_rng _ _)) dL_law_592 gL_law_X8_back rfl cd_X8_back ⟨Nat.le_of_ble_eq_true rfl, Nat.le_of_ble_eq_true rfl⟩ rfl rfl (by decide) rfl rfl rfl (Nat.le_of_ble_eq_true rfl) ⟨Nat.le_of_ble_eq_true rfl, Nat.le_of_ble_eq_true rfl⟩ (fun r2 g2 hp2 => ?_)
  obtain ⟨e2, mi', he2, rfl, rfl⟩ := hp2
  obtain ⟨hs1, hXn⟩ := he1
  obtain ⟨hs2, hMn⟩ := he2
  rw [← hv] at hs2
  obtain ⟨hee, hvv⟩ := dt_back hs2 hs1
  have hvv := hvv.symm
  rw [hee]
  refine v_icmp_same (tgt := 1191) dL_law_595 (by decide) ?_
  exact kk w d xi' xa mi' ma hXn hMn hvv
theorem cd_X7_ways : yX7_ways.cls = RX7 ∧ yX7_ways.cls ≠ "java/lang/invoke/MethodHandle" ∧ yX7_ways.cls ≠ "java/lang/invoke/VarHandle" ∧ (parseMethodDescriptor yX7_ways.desc).map (fun d => d.parameters.length) = some 2 := ⟨rfl, by decide +kernel, by decide +kernel, by decide +kernel⟩
theorem cd_X8_ways : yX8_ways.cls = RX8 ∧ yX8_ways.cls ≠ "java/lang/invoke/MethodHandle" ∧ yX8_ways.cls ≠ "java/lang/invoke/VarHandle" ∧ (parseMethodDescriptor yX8_ways.desc).map (fun d => d.parameters.length) = some 2 := ⟨rfl, by decide +kernel, by decide +kernel, by decide +kernel⟩
set_option maxHeartbeats 4000000 in
set_option maxRecDepth 100000 in
theorem lc_ways {p : Program} {l : Launch} {e : Env} {s : State} {m : MethodId} {args : Array Value} {below : List Frame} {meth : Method} {c : Code} {Q : State → Prop} {D : va_G} {cI cJ cZ cR : ClassId} {qx qm : Nat → Nat} {b L : Nat} {xs : Nat → Int32} {w d : Nat} {xi : Nat → Int} {xa : Nat → Nat → Int} {mi : Nat → Int} {ma : Nat → Nat → Int} {i : Int} (hqx : qOk 31 qx) (hqm : qOk 18 qm) (hXO : XOk w d xi xa) (hMO : MOk mi ma) (hv : vX w xi xa = vM mi ma) (hi : 0 ≤ i ∧ i + 7 ≤ (L : Int)) (kk : ∀ (w' d' : Nat) (xi' : Nat → Int) (xa' : Nat → Nat → Int) (mi' : Nat → Int) (ma' : Nat → Nat → Int), XOk w' d' xi' xa' → MOk mi' ma' → vX w' xi' xa' = vM mi' ma' → VV p l e room_1 s m args below meth c Q 49 3256 cL_law 4 RL wsL_law D vwCl (tysC cI cJ cZ cR) 31 qx 18 qm b L xs (cX cI cJ cZ cR qx w' d' xi' xa') (cM cI cJ cZ qm mi' ma') 1191 [(3, .int (iI i)), (2, .ref (qm 0)), (1, .ref (qx 0)), (0, .ref b)] []) : VV p l e room_1 s m args below meth c Q 49 3256 cL_law 4 RL wsL_law D vwCl (tysC cI cJ cZ cR) 31 qx 18 qm b L xs (cX cI cJ cZ cR qx w d xi xa) (cM cI cJ cZ qm mi ma) 600 [(3, .int (iI i)), (2, .ref (qm 0)), (1, .ref (qx 0)), (0, .ref b)] [] := by
  refine v_aload_n (j := 2) dL_law_600 rfl rfl ?_
  refine v_aload_n (j := 3) dL_law_601 rfl rfl ?_
  refine v_iload_n (j := 0) dL_law_602 rfl rfl ?_
  refine v_iconst dL_law_603 ?_
  refine v_iadd dL_law_604 ?_
  refine v_sld dL_law_605 (by omega) (by omega) ?_
  refine v_aload_n (j := 3) dL_law_606 rfl rfl ?_
  refine v_iload_n (j := 0) dL_law_607 rfl rfl ?_
  refine v_iconst dL_law_608 ?_
  refine v_iadd dL_law_609 ?_
  refine v_sld dL_law_610 (by omega) (by omega) ?_
  refine v_call1i (i := 0) (ci := 7) (As := [.int (iI (sx xs (i + 1).toNat)), .int (iI (sx xs (i + 2).toNat))]) (rest := []) (c_X7_ways hqx hXO (sx_rng _ _) (sx_rng _ _)) dL_law_611 gL_law_X7_ways rfl cd_X7_ways ⟨Nat.le_of_ble_eq_true rfl, Nat.le_of_ble_eq_true rfl⟩ rfl rfl (by decide) rfl rfl rfl (Nat.le_of_ble_eq_true rfl) ⟨Nat.le_of_ble_eq_true rfl, Nat.le_of_ble_eq_true rfl⟩ (fun r1 g1 hp1 => ?_)
  obtain ⟨e1, xa', he1, rfl, rfl⟩ := hp1
  refine v_aload_n (j := 1) dL_law_614 rfl rfl ?_
  refine v_aload_n (j := 3) dL_law_615 rfl rfl ?_
  refine v_iload_n (j := 0) dL_law_616 rfl rfl ?_
  refine v_iconst dL_law_617 ?_
  refine v_iadd dL_law_618 ?_
  refine v_sld dL_law_619 (by omega) (by omega) ?_
  refine v_aload_n (j := 3) dL_law_620 rfl rfl ?_
  refine v_iload_n (j := 0) dL_law_621 rfl rfl ?_
  refine v_iconst dL_law_622 ?_
  refine v_iadd dL_law_623 ?_
  refine v_sld dL_law_624 (by omega) (by omega) ?_
  refine v_call2i (i := 0) (ci := 8) (As := [.int (iI (sx xs (i + 1).toNat)), .int (iI (sx xs (i + 2).toNat))]) (rest := [.int (iI e1)]) (c_X8_ways hqm hMO (sx_rng _ _) (sx_rng _ _) (hTm_of hXO hv)) dL_law_625 gL_law_X8_ways rfl cd_X8_ways ⟨Nat.le_of_ble_eq_true rfl, Nat.le_of_ble_eq_true rfl⟩ rfl rfl (by decide) rfl rfl rfl (Nat.le_of_ble_eq_true rfl) ⟨Nat.le_of_ble_eq_true rfl, Nat.le_of_ble_eq_true rfl⟩ (fun r2 g2 hp2 => ?_)
  obtain ⟨e2, mi', he2, rfl, rfl⟩ := hp2
  obtain ⟨hs1, hsx, hXn⟩ := he1
  obtain ⟨hs2, hsm, hMn⟩ := he2
  rw [← hv] at hs2
  have hee := dt_ways hs2 hs1
  have hvv := hsx.trans (hv.trans hsm.symm)
  rw [hee]
  refine v_icmp_same (tgt := 1191) dL_law_628 (by decide) ?_
  exact kk w d xi xa' mi' ma hXn hMn hvv
theorem cd_X7_kinds : yX7_kinds.cls = RX7 ∧ yX7_kinds.cls ≠ "java/lang/invoke/MethodHandle" ∧ yX7_kinds.cls ≠ "java/lang/invoke/VarHandle" ∧ (parseMethodDescriptor yX7_kinds.desc).map (fun d => d.parameters.length) = some 6 := ⟨rfl, by decide +kernel, by decide +kernel, by decide +kernel⟩
theorem cd_X8_kinds : yX8_kinds.cls = RX8 ∧ yX8_kinds.cls ≠ "java/lang/invoke/MethodHandle" ∧ yX8_kinds.cls ≠ "java/lang/invoke/VarHandle" ∧ (parseMethodDescriptor yX8_kinds.desc).map (fun d => d.parameters.length) = some 6 := ⟨rfl, by decide +kernel, by decide +kernel, by decide +kernel⟩
set_option maxHeartbeats 4000000 in
set_option maxRecDepth 100000 in
theorem lc_kinds {p : Program} {l : Launch} {e : Env} {s : State} {m : MethodId} {args : Array Value} {below : List Frame} {meth : Method} {c : Code} {Q : State → Prop} {D : va_G} {cI cJ cZ cR : ClassId} {qx qm : Nat → Nat} {b L : Nat} {xs : Nat → Int32} {w d : Nat} {xi : Nat → Int} {xa : Nat → Nat → Int} {mi : Nat → Int} {ma : Nat → Nat → Int} {i : Int} (hqx : qOk 31 qx) (hqm : qOk 18 qm) (hXO : XOk w d xi xa) (hMO : MOk mi ma) (hv : vX w xi xa = vM mi ma) (hi : 0 ≤ i ∧ i + 7 ≤ (L : Int)) (kk : ∀ (w' d' : Nat) (xi' : Nat → Int) (xa' : Nat → Nat → Int) (mi' : Nat → Int) (ma' : Nat → Nat → Int), XOk w' d' xi' xa' → MOk mi' ma' → vX w' xi' xa' = vM mi' ma' → VV p l e room_1 s m args below meth c Q 49 3256 cL_law 4 RL wsL_law D vwCl (tysC cI cJ cZ cR) 31 qx 18 qm b L xs (cX cI cJ cZ cR qx w' d' xi' xa') (cM cI cJ cZ qm mi' ma') 1191 [(3, .int (iI i)), (2, .ref (qm 0)), (1, .ref (qx 0)), (0, .ref b)] []) : VV p l e room_1 s m args below meth c Q 49 3256 cL_law 4 RL wsL_law D vwCl (tysC cI cJ cZ cR) 31 qx 18 qm b L xs (cX cI cJ cZ cR qx w d xi xa) (cM cI cJ cZ qm mi ma) 633 [(3, .int (iI i)), (2, .ref (qm 0)), (1, .ref (qx 0)), (0, .ref b)] [] := by
  refine v_aload_n (j := 2) dL_law_633 rfl rfl ?_
  refine v_aload_n (j := 3) dL_law_634 rfl rfl ?_
  refine v_iload_n (j := 0) dL_law_635 rfl rfl ?_
  refine v_iconst dL_law_636 ?_
  refine v_iadd dL_law_637 ?_
  refine v_sld dL_law_638 (by omega) (by omega) ?_
  refine v_aload_n (j := 3) dL_law_639 rfl rfl ?_
  refine v_iload_n (j := 0) dL_law_640 rfl rfl ?_
  refine v_iconst dL_law_641 ?_
  refine v_iadd dL_law_642 ?_
  refine v_sld dL_law_643 (by omega) (by omega) ?_
  refine v_aload_n (j := 3) dL_law_644 rfl rfl ?_
  refine v_iload_n (j := 0) dL_law_645 rfl rfl ?_
  refine v_iconst dL_law_646 ?_
  refine v_iadd dL_law_647 ?_
  refine v_sld dL_law_648 (by omega) (by omega) ?_
  refine v_aload_n (j := 3) dL_law_649 rfl rfl ?_
  refine v_iload_n (j := 0) dL_law_650 rfl rfl ?_
  refine v_iconst dL_law_651 ?_
  refine v_iadd dL_law_652 ?_
  refine v_sld dL_law_653 (by omega) (by omega) ?_
  refine v_aload_n (j := 3) dL_law_654 rfl rfl ?_
  refine v_iload_n (j := 0) dL_law_655 rfl rfl ?_
  refine v_iconst dL_law_656 ?_
  refine v_iadd dL_law_657 ?_
  refine v_sld dL_law_658 (by omega) (by omega) ?_
  refine v_aload_n (j := 3) dL_law_659 rfl rfl ?_
  refine v_iload_n (j := 0) dL_law_660 rfl rfl ?_
  refine v_bipush dL_law_661 (by decide) ?_
  refine v_iadd dL_law_663 ?_
  refine v_sld dL_law_664 (by omega) (by omega) ?_
  refine v_call1i (i := 0) (ci := 7) (As := [.int (iI (sx xs (i + 1).toNat)), .int (iI (sx xs (i + 2).toNat)), .int (iI (sx xs (i + 3).toNat)), .int (iI (sx xs (i + 4).toNat)), .int (iI (sx xs (i + 5).toNat)), .int (iI (sx xs (i + 6).toNat))]) (rest := []) (c_X7_kinds hqx hXO (sx_rng _ _) (sx_rng _ _) (sx_rng _ _) (sx_rng _ _) (sx_rng _ _) (sx_rng _ _)) dL_law_665 gL_law_X7_kinds rfl cd_X7_kinds ⟨Nat.le_of_ble_eq_true rfl, Nat.le_of_ble_eq_true rfl⟩ rfl rfl (by decide) rfl rfl rfl (Nat.le_of_ble_eq_true rfl) ⟨Nat.le_of_ble_eq_true rfl, Nat.le_of_ble_eq_true rfl⟩ (fun r1 g1 hp1 => ?_)
  obtain ⟨e1, xi', xa', he1, rfl, rfl⟩ := hp1
  refine v_aload_n (j := 1) dL_law_668 rfl rfl ?_
  refine v_aload_n (j := 3) dL_law_669 rfl rfl ?_
  refine v_iload_n (j := 0) dL_law_670 rfl rfl ?_
  refine v_iconst dL_law_671 ?_
  refine v_iadd dL_law_672 ?_
  refine v_sld dL_law_673 (by omega) (by omega) ?_
  refine v_aload_n (j := 3) dL_law_674 rfl rfl ?_
  refine v_iload_n (j := 0) dL_law_675 rfl rfl ?_
  refine v_iconst dL_law_676 ?_
  refine v_iadd dL_law_677 ?_
  refine v_sld dL_law_678 (by omega) (by omega) ?_
  refine v_aload_n (j := 3) dL_law_679 rfl rfl ?_
  refine v_iload_n (j := 0) dL_law_680 rfl rfl ?_
  refine v_iconst dL_law_681 ?_
  refine v_iadd dL_law_682 ?_
  refine v_sld dL_law_683 (by omega) (by omega) ?_
  refine v_aload_n (j := 3) dL_law_684 rfl rfl ?_
  refine v_iload_n (j := 0) dL_law_685 rfl rfl ?_
  refine v_iconst dL_law_686 ?_
  refine v_iadd dL_law_687 ?_
  refine v_sld dL_law_688 (by omega) (by omega) ?_
  refine v_aload_n (j := 3) dL_law_689 rfl rfl ?_
  refine v_iload_n (j := 0) dL_law_690 rfl rfl ?_
  refine v_iconst dL_law_691 ?_
  refine v_iadd dL_law_692 ?_
  refine v_sld dL_law_693 (by omega) (by omega) ?_
  refine v_aload_n (j := 3) dL_law_694 rfl rfl ?_
  refine v_iload_n (j := 0) dL_law_695 rfl rfl ?_
  refine v_bipush dL_law_696 (by decide) ?_
  refine v_iadd dL_law_698 ?_
  refine v_sld dL_law_699 (by omega) (by omega) ?_
  refine v_call2i (i := 0) (ci := 8) (As := [.int (iI (sx xs (i + 1).toNat)), .int (iI (sx xs (i + 2).toNat)), .int (iI (sx xs (i + 3).toNat)), .int (iI (sx xs (i + 4).toNat)), .int (iI (sx xs (i + 5).toNat)), .int (iI (sx xs (i + 6).toNat))]) (rest := [.int (iI e1)]) (c_X8_kinds hqm hMO (sx_rng _ _) (sx_rng _ _) (sx_rng _ _) (sx_rng _ _) (sx_rng _ _) (sx_rng _ _)) dL_law_700 gL_law_X8_kinds rfl cd_X8_kinds ⟨Nat.le_of_ble_eq_true rfl, Nat.le_of_ble_eq_true rfl⟩ rfl rfl (by decide) rfl rfl rfl (Nat.le_of_ble_eq_true rfl) ⟨Nat.le_of_ble_eq_true rfl, Nat.le_of_ble_eq_true rfl⟩ (fun r2 g2 hp2 => ?_)
  obtain ⟨e2, mi', ma', he2, rfl, rfl⟩ := hp2
  obtain ⟨hs1, hXn⟩ := he1
  obtain ⟨hs2, hMn⟩ := he2
  rw [← hv] at hs2
  obtain ⟨hee, hvv⟩ := dt_kinds hs2 hs1
  have hvv := hvv.symm
  rw [hee]
  refine v_icmp_same (tgt := 1191) dL_law_703 (by decide) ?_
  exact kk w d xi' xa' mi' ma' hXn hMn hvv
