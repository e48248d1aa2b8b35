/-! worlds that grow: what constructors do -/
def YC (p : Program) (s : State) (m : MethodId) (args : Array Value) (meth : Method) (c : Code) (cc : ByteArray) (nL : Nat) (own : String) (Ts : List Cond) (D : va_G) (cl : List vw_C) (tys : List (ClassId × FieldType)) (A : Nat → Prop) (ret : Option FieldType) : Prop :=
  p.tables.exec = Jvm.exec ∧ c.code = cc ∧ c.maxLocals = nL ∧ s.vm.findClass own = some m.cls ∧ (∀ w ∈ Ts, w.before args s = true) ∧ va_K D cl tys s ∧ (∀ a, s.heap.size ≤ a → A a) ∧ meth.sig.returnType = ret ∧ meth.locks = false ∧ NWs s ∧ va_AO "PoleBehind$Row" s
def Y (p : Program) (l : Launch) (e : Env) (R : Room) (s : State) (m : MethodId) (args : Array Value) (below : List Frame) (meth : Method) (c : Code) (Q : State → Prop) (cells slots : Nat) (cc : ByteArray) (nL : Nat) (own : String) (Ts : List Cond) (D : va_G) (cl : List vw_C) (tys : List (ClassId × FieldType)) (A : Nat → Prop) (ret : Option FieldType) (ws : va_W) (pc : Nat) (lv : List (Nat × Value)) (st : List Value) : Prop :=
  YC p s m args meth c cc nL own Ts D cl tys A ret → ∀ (H : Heap) (locs : List Loc) (ls : Array Slot), va_P D cl ws H → va_D A ws → va_S A s.heap H locs → lv_has ls nL lv → W p l e R s m args below meth c H locs cells slots Q (F0 m pc ls st)
def CtI (l : Launch) (D : va_G) (cl : List vw_C) (tys : List (ClassId × FieldType)) (y : MethodName) (wsy : List Cond) (rm : Room) (h : Nat) (wc : va_W) (w1 : (Nat → Nat) → va_W) (mc ms : Nat) : Prop :=
  ∀ sz : Nat, Met l y wsy rm (va_Pc [.ref h] (fun U => U.heap.size = sz ∧ va_P D cl wc U.heap ∧ va_K D cl tys U ∧ va_D (fun _ => True) wc ∧ NWs U ∧ va_AO "PoleBehind$Row" U)) (va_Qv (fun _ : Nat → Nat => True) (fun u t => va_P D cl (w1 u) t.heap ∧ va_D (va_A wc sz) (w1 u)) (va_A wc sz)) mc ms (va_A wc sz)
theorem fm_of {α β : Type} {f : α → Option β} : ∀ {is : List α} {ws : List β}, is.map f = ws.map some → is.filterMap f = ws
  | [], [], _ => rfl
  | [], _ :: _, h => by cases h
  | _ :: _, [], h => by cases h
  | a :: is, b :: ws, h => by
    rw [List.map_cons, List.map_cons] at h
    have h1 := (List.cons.inj h).1
    have h2 := (List.cons.inj h).2
    rw [List.filterMap_cons, h1, fm_of h2]
theorem RA_prim {U : State} {cA : ClassId} {ty : FieldType} (h : ty = .int ∨ ty = .long ∨ ty = .boolean) (q : va_RA U cA ty) : U.vm.findClass ("[" ++ ty.toString) = some cA := by
  rcases h with rfl | rfl | rfl
  · exact q
  · exact q
  · exact q
section YL
variable {p : Program} {l : Launch} {e : Env} {R : Room} {s : State} {m : MethodId} {args : Array Value} {below : List Frame} {meth : Method} {c : Code} {Q : State → Prop} {cells slots : Nat} {cc : ByteArray} {nL : Nat} {own : String} {Ts : List Cond} {D : va_G} {cl : List vw_C} {tys : List (ClassId × FieldType)} {A : Nat → Prop} {ret : Option FieldType}
variable {ws : va_W} {pc : Nat} {lv : List (Nat × Value)} {st : List Value}
theorem y_iconst {k : Int} (hdg : decode cc pc = .ok (.iconst k, 1)) (kk : Y p l e R s m args below meth c Q cells slots cc nL own Ts D cl tys A ret ws (pc + 1) lv (.int (iI k) :: st)) : Y p l e R s m args below meth c Q cells slots cc nL own Ts D cl tys A ret ws pc lv st := by
  intro C H locs ls hP hD hS hl
  obtain ⟨hx, hb, hml, hown, hts, hK, hA, hr, hlk, hNW, hAO⟩ := id C
  exact lv_iconst (v := iI k) hx hb hdg rfl (kk C H locs ls hP hD hS hl)
theorem y_bipush {k : Int} (hdg : decode cc pc = .ok (.bipush k, 2)) (hv : (Int8.ofInt k).toInt32 = iI k) (kk : Y p l e R s m args below meth c Q cells slots cc nL own Ts D cl tys A ret ws (pc + 2) lv (.int (iI k) :: st)) : Y p l e R s m args below meth c Q cells slots cc nL own Ts D cl tys A ret ws pc lv st := by
  intro C H locs ls hP hD hS hl
  obtain ⟨hx, hb, hml, hown, hts, hK, hA, hr, hlk, hNW, hAO⟩ := id C
  exact lv_bipush (v := iI k) hx hb hdg hv (kk C H locs ls hP hD hS hl)
theorem y_sipush {k : Int} (hdg : decode cc pc = .ok (.sipush k, 3)) (hv : (Int16.ofInt k).toInt32 = iI k) (kk : Y p l e R s m args below meth c Q cells slots cc nL own Ts D cl tys A ret ws (pc + 3) lv (.int (iI k) :: st)) : Y p l e R s m args below meth c Q cells slots cc nL own Ts D cl tys A ret ws pc lv st := by
  intro C H locs ls hP hD hS hl
  obtain ⟨hx, hb, hml, hown, hts, hK, hA, hr, hlk, hNW, hAO⟩ := id C
  exact lv_sipush (v := iI k) hx hb hdg hv (kk C H locs ls hP hD hS hl)
theorem y_aload_n {k : Fin 4} {i j x : Nat} (hdg : decode cc pc = .ok (.aload_n k, 1)) (hi : (k : Nat) = i) (hj : lv[j]? = some (i, .ref x)) (kk : Y p l e R s m args below meth c Q cells slots cc nL own Ts D cl tys A ret ws (pc + 1) lv (.ref x :: st)) : Y p l e R s m args below meth c Q cells slots cc nL own Ts D cl tys A ret ws pc lv st := by
  intro C H locs ls hP hD hS hl
  obtain ⟨hx, hb, hml, hown, hts, hK, hA, hr, hlk, hNW, hAO⟩ := id C
  exact lv_aload_n hx hb hdg hi (lv_at hl j hj) (kk C H locs ls hP hD hS hl)
theorem y_iload_n {k : Fin 4} {i j : Nat} {x : Int32} (hdg : decode cc pc = .ok (.iload_n k, 1)) (hi : (k : Nat) = i) (hj : lv[j]? = some (i, .int x)) (kk : Y p l e R s m args below meth c Q cells slots cc nL own Ts D cl tys A ret ws (pc + 1) lv (.int x :: st)) : Y p l e R s m args below meth c Q cells slots cc nL own Ts D cl tys A ret ws pc lv st := by
  intro C H locs ls hP hD hS hl
  obtain ⟨hx, hb, hml, hown, hts, hK, hA, hr, hlk, hNW, hAO⟩ := id C
  exact lv_iload_n hx hb hdg hi (lv_at hl j hj) (kk C H locs ls hP hD hS hl)
theorem y_istore_n {k : Fin 4} {i : Nat} {x : Int32} (lv' : List (Nat × Value)) (hdg : decode cc pc = .ok (.istore_n k, 1)) (hi : (k : Nat) = i) (hn : i < nL) (hl' : (i, Value.int x) :: lv.filter (fun q => !(q.1 == i) && !(q.1 + 1 == i && q.2.category == 2)) = lv') (kk : Y p l e R s m args below meth c Q cells slots cc nL own Ts D cl tys A ret ws (pc + 1) lv' st) : Y p l e R s m args below meth c Q cells slots cc nL own Ts D cl tys A ret ws pc lv (.int x :: st) := by
  intro C H locs ls hP hD hS hl
  obtain ⟨hx, hb, hml, hown, hts, hK, hA, hr, hlk, hNW, hAO⟩ := id C
  exact lv_istore_n (lv' := lv') hx hb hdg hi hl hn hl' (fun ls2 hl2 => kk C H locs ls2 hP hD hS hl2)
theorem y_astore_n {k : Fin 4} {i : Nat} {x : Nat} (lv' : List (Nat × Value)) (hdg : decode cc pc = .ok (.astore_n k, 1)) (hi : (k : Nat) = i) (hn : i < nL) (hl' : (i, Value.ref x) :: lv.filter (fun q => !(q.1 == i) && !(q.1 + 1 == i && q.2.category == 2)) = lv') (kk : Y p l e R s m args below meth c Q cells slots cc nL own Ts D cl tys A ret ws (pc + 1) lv' st) : Y p l e R s m args below meth c Q cells slots cc nL own Ts D cl tys A ret ws pc lv (.ref x :: st) := by
  intro C H locs ls hP hD hS hl
  obtain ⟨hx, hb, hml, hown, hts, hK, hA, hr, hlk, hNW, hAO⟩ := id C
  exact lv_astore_n (lv' := lv') hx hb hdg hi hl hn hl' (fun ls2 hl2 => kk C H locs ls2 hP hD hS hl2)
theorem y_iinc {i j : Nat} {k a b : Int} (lv' : List (Nat × Value)) (hdg : decode cc pc = .ok (.iinc i k, 3)) (hj : lv[j]? = some (i, .int (iI a))) (hab : a + k = b) (hn : i < nL) (hl' : (i, Value.int (iI b)) :: lv.filter (fun q => !(q.1 == i) && !(q.1 + 1 == i && q.2.category == 2)) = lv') (kk : Y p l e R s m args below meth c Q cells slots cc nL own Ts D cl tys A ret ws (pc + 3) lv' st) : Y p l e R s m args below meth c Q cells slots cc nL own Ts D cl tys A ret ws pc lv st := by
  intro C H locs ls hP hD hS hl
  obtain ⟨hx, hb, hml, hown, hts, hK, hA, hr, hlk, hNW, hAO⟩ := id C
  subst hab
  exact lv_iinc (v := iI (a + k)) (lv' := lv') hx hb hdg hl hj (iI_add a k) hn hl' (fun ls2 hl2 => kk C H locs ls2 hP hD hS hl2)
theorem y_goto {off : Int} {tgt : Nat} (hdg : decode cc pc = .ok (.goto off, 3)) (ht : (pc : Int) + off = (tgt : Int)) (kk : Y p l e R s m args below meth c Q cells slots cc nL own Ts D cl tys A ret ws tgt lv st) : Y p l e R s m args below meth c Q cells slots cc nL own Ts D cl tys A ret ws pc lv st := by
  intro C H locs ls hP hD hS hl
  obtain ⟨hx, hb, hml, hown, hts, hK, hA, hr, hlk, hNW, hAO⟩ := id C
  exact lv_goto hx hb hdg ht (kk C H locs ls hP hD hS hl)
theorem y_icmp_ge {a b : Int} {off : Int} {tgt : Nat} (hdg : decode cc pc = .ok (.if_icmp .ge off, 3)) (ht : (pc : Int) + off = (tgt : Int)) (ha : -2147483648 ≤ a ∧ a < 2147483648) (hb2 : -2147483648 ≤ b ∧ b < 2147483648) (kt : b ≤ a → Y p l e R s m args below meth c Q cells slots cc nL own Ts D cl tys A ret ws tgt lv st) (kf : ¬ b ≤ a → Y p l e R s m args below meth c Q cells slots cc nL own Ts D cl tys A ret ws (pc + 3) lv st) : Y p l e R s m args below meth c Q cells slots cc nL own Ts D cl tys A ret ws pc lv (.int (iI b) :: .int (iI a) :: st) := by
  intro C H locs ls hP hD hS hl
  obtain ⟨hx, hb, hml, hown, hts, hK, hA, hr, hlk, hNW, hAO⟩ := id C
  exact lv_icmp_ge hx hb hdg ht (fun h => kt ((iI_le hb2 ha).mp h) C H locs ls hP hD hS hl) (fun h => kf (fun z => h ((iI_le hb2 ha).mpr z)) C H locs ls hP hD hS hl)
theorem y_dup {v : Value} (hdg : decode cc pc = .ok (.dup, 1)) (hv : v.category = 1) (kk : Y p l e R s m args below meth c Q cells slots cc nL own Ts D cl tys A ret ws (pc + 1) lv (v :: v :: st)) : Y p l e R s m args below meth c Q cells slots cc nL own Ts D cl tys A ret ws pc lv (v :: st) := by
  intro C H locs ls hP hD hS hl
  obtain ⟨hx, hb, hml, hown, hts, hK, hA, hr, hlk, hNW, hAO⟩ := id C
  exact lv_dup hx hb hdg hv (kk C H locs ls hP hD hS hl)
theorem y_obj {a idx : Nat} (hdg : decode cc pc = .ok (.invokespecial idx, 3)) (h1 : Cond.methodLink own idx Lib.objectInit ∈ Ts) (h2 : Cond.instanceMethod Lib.objectInit ∈ Ts) (h3 : Cond.code Lib.objectInit ⟨#[0xb1]⟩ 1 none ∈ Ts) (hfr : 1 ≤ R.frames) (hlo : 2 * (F0 m pc (#[] : Array Slot) []).monitorRoom + (st.map fun v => v.category).sum + 12 ≤ R.locals) (kk : Y p l e R s m args below meth c Q cells slots cc nL own Ts D cl tys A ret ws (pc + 3) lv st) : Y p l e R s m args below meth c Q cells slots cc nL own Ts D cl tys A ret ws pc lv (.ref a :: st) := by
  intro C H locs ls hP hD hS hl
  obtain ⟨hx, hb, hml, hown, hts, hK, hA, hr, hlk, hNW, hAO⟩ := id C
  refine W.objInit hx hb hown (hts _ h1) (hts _ h2) (hts _ h3) rfl (by rw [hml]; exact hl.1) rfl hdg hfr hlo ?_
  exact kk C H locs ls hP hD hS hl
theorem y_newa {n : Int} {N : Nat} {a0 : vp_A} {atype : ArrayType} {ty : FieldType} {cT : ClassId} (t0 : Nat) (ws2 : Nat → va_W) (hdg : decode cc pc = .ok (.newarray atype, 2)) (hm : Cond.arrayClass ty ∈ Ts) (hty : newarray.typeOf atype = ty) (hpr : ty = .int ∨ ty = .long ∨ ty = .boolean) (ht : tys[t0]? = some (cT, ty)) (ha : ∀ cA : ClassId, vp_cell cA a0 = arrV cA N (fun _ => defaultValue ty)) (hn : 0 ≤ n ∧ n < 2147483648) (hN : n.toNat = N) (hby : N * componentBytes ty ≤ 536870912) (hc : cells + 1 ≤ R.cells) (hs : slots + N ≤ R.slots) (h2 : ∀ q, ws ++ [(q, .inl (cT, a0))] = ws2 q) (kk : ∀ q : Nat, Y p l e R s m args below meth c Q (cells + 1) (slots + N) cc nL own Ts D cl tys A ret (ws2 q) (pc + 2) lv (.ref q :: st)) : Y p l e R s m args below meth c Q cells slots cc nL own Ts D cl tys A ret ws pc lv (.int (iI n) :: st) := by
  intro C H locs ls hP hD hS hl
  obtain ⟨hx, hb, hml, hown, hts, hK, hA, hr, hlk, hNW, hAO⟩ := id C
  subst hty
  refine va_newa hx hb (hts _ hm) rfl hK hP hD hS hA ha (fun h => by have := (iI_lt0 (by omega)).mp h; omega) (by rw [iI_nat (by omega)]; exact hN) hby hc hs hdg (fun q cA H1 hK1 hP1 hD1 hS1 => ?_)
  have e1 := RA_prim hpr (hK1.2 tys.length _ (by rw [List.getElem?_append_right (Nat.le_refl _), Nat.sub_self]; rfl)).2
  have e2 := RA_prim hpr (hK.2 t0 _ ht).2
  have e3 : cA = cT := Option.some.inj (e1.symm.trans e2)
  subst e3
  rw [h2 q] at hP1 hD1
  exact kk q C H1 locs ls hP1 hD1 hS1 hl
theorem y_newq {n : Int} {N index : Nat} {cT : ClassId} (t0 : Nat) (ws2 : Nat → va_W) (hdg : decode cc pc = .ok (.anewarray index, 3)) (hm : Cond.classLink own index "PoleBehind$Row" ∈ Ts) (ht : tys[t0]? = some (cT, .object "PoleBehind$Row")) (hn : 0 ≤ n ∧ n < 2147483648) (hN : n.toNat = N) (hby : N * 4 ≤ 536870912) (hc : cells + 1 ≤ R.cells) (hs : slots + N ≤ R.slots) (h2 : ∀ q, ws ++ [(q, .inl (cT, N, .inr (.inr (.inr (.inr (fun _ => none))))))] = ws2 q) (kk : ∀ q : Nat, Y p l e R s m args below meth c Q (cells + 1) (slots + N) cc nL own Ts D cl tys A ret (ws2 q) (pc + 3) lv (.ref q :: st)) : Y p l e R s m args below meth c Q cells slots cc nL own Ts D cl tys A ret ws pc lv (.int (iI n) :: st) := by
  intro C H locs ls hP hD hS hl
  obtain ⟨hx, hb, hml, hown, hts, hK, hA, hr, hlk, hNW, hAO⟩ := id C
  refine va_newq hx hb hown (hts _ hm) hAO hK hP hD hS hA (fun h => by have := (iI_lt0 (by omega)).mp h; omega) (by rw [iI_nat (by omega)]; exact hN) hby hc hs hdg (fun q cA H1 hK1 hP1 hD1 hS1 => ?_)
  obtain ⟨_, _, _, _, _, e1⟩ := (hK1.2 tys.length _ (by rw [List.getElem?_append_right (Nat.le_refl _), Nat.sub_self]; rfl)).2
  obtain ⟨_, _, _, _, _, e2⟩ := (hK.2 t0 _ ht).2
  have e3 : cA = cT := Option.some.inj (e1.symm.trans e2)
  subst e3
  rw [h2 q] at hP1 hD1
  exact kk q C H1 locs ls hP1 hD1 hS1 hl
theorem y_new {Cn : String} {T : u_T} {N ci index : Nat} {fs : List Value} (ty : Nat → FieldType) (ws2 : Nat → va_W) (hdg : decode cc pc = .ok (.new index, 3)) (h1 : Cond.classLink own index Cn ∈ Ts) (h3 : Cond.instantiable Cn N ∈ Ts) (h4 : Cond.initialized Cn ∈ Ts) (hin : ∀ w ∈ u_ws Cn T N, w ∈ Ts) (hty : ∀ k, k < N → parseFieldDescriptor (T k).2.2.1 = some (ty k)) (hcl : cl[ci]? = some (Cn, T, N)) (hfs : ∀ j, j < N → defaultValue (ty j) = vp_V fs j) (hc : cells + 1 ≤ R.cells) (hs : slots + N ≤ R.slots) (h2 : ∀ q, ws ++ [(q, .inr (ci, fs))] = ws2 q) (kk : ∀ q : Nat, Y p l e R s m args below meth c Q (cells + 1) (slots + N) cc nL own Ts D cl tys A ret (ws2 q) (pc + 3) lv (.ref q :: st)) : Y p l e R s m args below meth c Q cells slots cc nL own Ts D cl tys A ret ws pc lv st := by
  intro C H locs ls hP hD hS hl
  obtain ⟨hx, hb, hml, hown, hts, hK, hA, hr, hlk, hNW, hAO⟩ := id C
  refine va_new hx hb hts hin ty hty hown (hts _ h1) (hts _ h3) (hts _ h4) hK hP hD hS hA hcl hfs hc hs hdg (fun q H1 hP1 hD1 hS1 => ?_)
  rw [h2 q] at hP1 hD1
  exact kk q C H1 locs ls hP1 hD1 hS1 hl
theorem y_put {nm ds Cn : String} {T : u_T} {N ci index k i a : Nat} {fs : List Value} {v : Value} {ty : FieldType} {ty0 : Nat → FieldType} (ws2 : va_W) (hdg : decode cc pc = .ok (.putfield index, 3)) (hm : Cond.fieldLink own index Cn nm ds ∈ Ts) (hin : ∀ w ∈ u_ws Cn T N, w ∈ Ts) (hc : cl[ci]? = some (Cn, T, N)) (hk : k < N) (hT : T k = (Cn, nm, ds, false)) (hf : ws[i]? = some (a, .inr (ci, fs))) (hty : ∀ k, k < N → parseFieldDescriptor (T k).2.2.1 = some (ty0 k)) (hnm : ∀ a, a < N → ∀ b, b < N → a ≠ b → (T a).2.1 ≠ (T b).2.1) (hd : ty0 k = ty) (hn : narrow ty v = v) (hfit : fits ty v = true) (hlen : k < fs.length) (hg : ws.set i (a, .inr (ci, fs.set k v)) = ws2) (kk : Y p l e R s m args below meth c Q cells slots cc nL own Ts D cl tys A ret ws2 (pc + 3) lv st) : Y p l e R s m args below meth c Q cells slots cc nL own Ts D cl tys A ret ws pc lv (v :: .ref a :: st) := by
  intro C H locs ls hP hD hS hl
  obtain ⟨hx, hb, hml, hown, hts, hK, hA, hr, hlk, hNW, hAO⟩ := id C
  subst hg
  exact va_put hx hb hts hin ty0 hty hnm hown hK hP hD hS i hf hc k hk (ref := Cn) (by rw [hT]; exact hts _ hm) (by rw [hT]; exact fun _ h => h) (by rw [hT]) (ty := ty) (by rw [hty k hk, hd]) hn hfit hlen hdg (fun H1 locs1 hP1 hD1 hS1 => kk C H1 locs1 ls hP1 hD1 hS1 hl)
theorem y_putF {nm ds Cn : String} {T : u_T} {N ci index k i a : Nat} {fs : List Value} {v : Value} {ty : FieldType} {ty0 : Nat → FieldType} (ws2 : va_W) (hdg : decode cc pc = .ok (.putfield index, 3)) (hm : Cond.fieldLink own index Cn nm ds ∈ Ts) (hin : ∀ w ∈ u_ws Cn T N, w ∈ Ts) (hc : cl[ci]? = some (Cn, T, N)) (hk : k < N) (hT : T k = (Cn, nm, ds, true)) (hf : ws[i]? = some (a, .inr (ci, fs))) (hty : ∀ k, k < N → parseFieldDescriptor (T k).2.2.1 = some (ty0 k)) (hnm : ∀ a, a < N → ∀ b, b < N → a ≠ b → (T a).2.1 ≠ (T b).2.1) (hd : ty0 k = ty) (hn : narrow ty v = v) (hfit : fits ty v = true) (hlen : k < fs.length) (hg : ws.set i (a, .inr (ci, fs.set k v)) = ws2) (hi2 : meth.name = "<init>") (hdc : (T k).1 = own) (kk : Y p l e R s m args below meth c Q cells slots cc nL own Ts D cl tys A ret ws2 (pc + 3) lv st) : Y p l e R s m args below meth c Q cells slots cc nL own Ts D cl tys A ret ws pc lv (v :: .ref a :: st) := by
  intro C H locs ls hP hD hS hl
  obtain ⟨hx, hb, hml, hown, hts, hK, hA, hr, hlk, hNW, hAO⟩ := id C
  subst hg
  exact va_putF hx hb hts hin ty0 hty hnm hown hK hP hD hS i hf hc k hk (ref := Cn) (by rw [hT]; exact hts _ hm) (by rw [hT]; exact fun _ h => h) (by rw [hT]) hi2 hdc (ty := ty) (by rw [hty k hk, hd]) hn hfit hlen hdg (fun H1 locs1 hP1 hD1 hS1 => kk C H1 locs1 ls hP1 hD1 hS1 hl)
theorem y_getf {nm ds Cn : String} {fin : Bool} {T : u_T} {N ci index k i a : Nat} {fs : List Value} {v : Value} (hdg : decode cc pc = .ok (.getfield index, 3)) (hm : Cond.fieldLink own index Cn nm ds ∈ Ts) (hin : ∀ w ∈ u_ws Cn T N, w ∈ Ts) (hc : cl[ci]? = some (Cn, T, N)) (hk : k < N) (hT : T k = (Cn, nm, ds, fin)) (hf : ws[i]? = some (a, .inr (ci, fs))) (hv : fs[k]? = some v) (kk : Y p l e R s m args below meth c Q cells slots cc nL own Ts D cl tys A ret ws (pc + 3) lv (v :: st)) : Y p l e R s m args below meth c Q cells slots cc nL own Ts D cl tys A ret ws pc lv (.ref a :: st) := by
  intro C H locs ls hP hD hS hl
  obtain ⟨hx, hb, hml, hown, hts, hK, hA, hr, hlk, hNW, hAO⟩ := id C
  exact va_get hx hb hts hin hown hK hP i hf hc k hk (ref := Cn) (by rw [hT]; exact hts _ hm) (by rw [hT]; exact fun _ h => h) hv hdg (kk C H locs ls hP hD hS hl)
theorem y_iast {a i : Nat} {cA : ClassId} {len : Nat} {g : Nat → Int} {j z : Int} (t0 : Nat) (ws2 : va_W) (hdg : decode cc pc = .ok (.iastore, 1)) (hf : ws[i]? = some (a, .inl (cA, len, .inl (fun k => iI (g k))))) (ht : tys[t0]? = some (cA, .int)) (hj : -2147483648 ≤ j ∧ j < 2147483648) (h0 : 0 ≤ j) (h1 : j < len) (hg : ws.set i (a, .inl (cA, len, .inl (fun k => iI (va_up g j.toNat z k)))) = ws2) (kk : Y p l e R s m args below meth c Q cells slots cc nL own Ts D cl tys A ret ws2 (pc + 1) lv st) : Y p l e R s m args below meth c Q cells slots cc nL own Ts D cl tys A ret ws pc lv (.int (iI z) :: .int (iI j) :: .ref a :: st) := by
  intro C H locs ls hP hD hS hl
  obtain ⟨hx, hb, hml, hown, hts, hK, hA, hr, hlk, hNW, hAO⟩ := id C
  subst hg
  exact va_iast hx hb hK hP hD hS i t0 hf ht (iI_in hj h0 h1) hdg (fun H1 locs1 hP1 hD1 hS1 => kk C H1 locs1 ls (by rw [← upd_iI, ← iI_nat hj]; exact hP1) (by rw [← upd_iI, ← iI_nat hj]; exact hD1) hS1 hl)
theorem y_aast {a i qk ci v : Nat} {r : vw_C} {cA : ClassId} {len : Nat} {f : Nat → Option Nat} {vs : List Value} {j : Int} (t0 : Nat) (ws2 : va_W) (hdg : decode cc pc = .ok (.aastore, 1)) (hf : ws[i]? = some (a, .inl (cA, len, .inr (.inr (.inr (.inr f)))))) (ht : tys[t0]? = some (cA, .object r.1)) (hv : ws[qk]? = some (v, .inr (ci, vs))) (hcl : cl[ci]? = some r) (hj : -2147483648 ≤ j ∧ j < 2147483648) (h0 : 0 ≤ j) (h1 : j < len) (hg : ws.set i (a, .inl (cA, len, .inr (.inr (.inr (.inr (va_up f j.toNat (some v))))))) = ws2) (kk : Y p l e R s m args below meth c Q cells slots cc nL own Ts D cl tys A ret ws2 (pc + 1) lv st) : Y p l e R s m args below meth c Q cells slots cc nL own Ts D cl tys A ret ws pc lv (.ref v :: .int (iI j) :: .ref a :: st) := by
  intro C H locs ls hP hD hS hl
  obtain ⟨hx, hb, hml, hown, hts, hK, hA, hr, hlk, hNW, hAO⟩ := id C
  subst hg
  exact va_astq hx hb hK hP hD hS i t0 qk ci hf ht hv hcl (iI_in hj h0 h1) hdg (fun H1 locs1 hP1 hD1 hS1 => kk C H1 locs1 ls (by rw [← iI_nat hj]; exact hP1) (by rw [← iI_nat hj]; exact hD1) hS1 hl)
theorem y_callIN {y : MethodName} {bytes : ByteArray} {maxL index h mc ms : Nat} {wsy ws' : List Cond} {rm : Room} {wc : va_W} {w1 : (Nat → Nat) → va_W} (isC isR : List Nat) (wr : va_W) (ws2 : (Nat → Nat) → va_W) (hM : CtI l D cl tys y wsy rm h wc w1 mc ms) (hdg : decode cc pc = .ok (.invokespecial index, 3)) (hG : GoodIn Ts wsy) {host : String} (hnl : Cond.methodLinkNest own index y host ∈ NWl) (hin : Cond.initialized y.cls ∈ Ts) (hins : Cond.instanceMethod y ∈ Ts) (hy1 : y.name = "<init>") (hw : wsy = Cond.code y bytes maxL none :: ws') (hd : y.cls ≠ "java/lang/invoke/MethodHandle" ∧ y.cls ≠ "java/lang/invoke/VarHandle" ∧ (parseMethodDescriptor y.desc).map (fun d => d.parameters.length) = some 0) (hR : rm.frames + 1 ≤ R.frames ∧ 8 + (maxL + 11) + rm.locals ≤ R.locals) (hrc : rm.cells = mc) (hrs : rm.slots = ms) (hC : isC.map (fun i => ws[i]?) = wc.map some) (hRr : isR.map (fun i => ws[i]?) = wr.map some) (hn : va_nd isR = true) (hnC : va_nd isC = true) (hdis : ∀ i ∈ isR, i ∉ isC) (hW : (st.map fun v => v.category).sum ≤ 8) (hcs : cells + mc ≤ R.cells ∧ slots + ms ≤ R.slots) (h2 : ∀ u, wr ++ w1 u = ws2 u) (kk : ∀ u : Nat → Nat, Y p l e R s m args below meth c Q (cells + mc) (slots + ms) cc nL own Ts D cl tys A ret (ws2 u) (pc + 3) lv st) : Y p l e R s m args below meth c Q cells slots cc nL own Ts D cl tys A ret ws pc lv (.ref h :: st) := by
  intro C H locs ls hP hD hS hl
  obtain ⟨hx, hb, hml, hown, hts, hK, hA, hr, hlk, hNW, hAO⟩ := id C
  have hPc : va_P D cl wc H := hP.sub isC (fm_of hC)
  have hDc := hD.sub isC hnC hC
  have hFc := va_free hD hS hA isC hC
  exact va_callv (va_runIN (As := []) (rest := st) ⟨hx, hb, hml, hown, hts⟩ (hM H.size) ⟨va_cnB 0 hts hG hw hrc hrs (hNW _ hnl) (hts _ hin) hd hR, hy1, hts _ hins⟩ ⟨fun a U g mk q => ⟨q.1, q.2.1, q.2.2.1, va_K.moved (u := U) (U := U.calling g mk a) (Vm.Alike.refl U.vm) q.2.2.2.1, q.2.2.2.2.1, NWs.same (u := U) (U := U.calling g mk a) rfl q.2.2.2.2.2.1, va_AO.moved (u := U) (U := U.calling g mk a) (Vm.Alike.refl U.vm) q.2.2.2.2.2.2⟩, fun U hU hW => ⟨rfl, by rw [hU], by rw [hU]; exact hPc, va_K.moved hW.alike hK, hDc.weaken (fun _ _ _ _ => trivial), hNW.warm hW, va_AO.moved hW.alike hAO⟩⟩ rfl rfl hl.1 rfl (lv_room hW) hdg hcs) hS (fun q _ h => hFc q h) hFc (fun u t H1 locs1 ht hvm hw1 hB hz hk hS1 => by
    obtain ⟨hP1, hD1⟩ := hB
    rw [ht] at hP1
    obtain ⟨hP2, hD2⟩ := va_join hP hD isC isR hC hRr hn hdis hk hFc hP1 hD1
    rw [h2 u] at hP2 hD2
    exact kk u C H1 locs1 ls hP2 hD2 hS1 hl)
theorem y_callI {y : MethodName} {bytes : ByteArray} {maxL index h mc ms : Nat} {wsy ws' : List Cond} {rm : Room} {wc : va_W} {w1 : (Nat → Nat) → va_W} (isC isR : List Nat) (wr : va_W) (ws2 : (Nat → Nat) → va_W) (hM : CtI l D cl tys y wsy rm h wc w1 mc ms) (hdg : decode cc pc = .ok (.invokespecial index, 3)) (hG : GoodIn Ts wsy) (hml2 : Cond.methodLink own index y ∈ Ts) (hin : Cond.initialized y.cls ∈ Ts) (hins : Cond.instanceMethod y ∈ Ts) (hy1 : y.name = "<init>") (hw : wsy = Cond.code y bytes maxL none :: ws') (hd : y.cls ≠ "java/lang/invoke/MethodHandle" ∧ y.cls ≠ "java/lang/invoke/VarHandle" ∧ (parseMethodDescriptor y.desc).map (fun d => d.parameters.length) = some 0) (hR : rm.frames + 1 ≤ R.frames ∧ 8 + (maxL + 11) + rm.locals ≤ R.locals) (hrc : rm.cells = mc) (hrs : rm.slots = ms) (hC : isC.map (fun i => ws[i]?) = wc.map some) (hRr : isR.map (fun i => ws[i]?) = wr.map some) (hn : va_nd isR = true) (hnC : va_nd isC = true) (hdis : ∀ i ∈ isR, i ∉ isC) (hW : (st.map fun v => v.category).sum ≤ 8) (hcs : cells + mc ≤ R.cells ∧ slots + ms ≤ R.slots) (h2 : ∀ u, wr ++ w1 u = ws2 u) (kk : ∀ u : Nat → Nat, Y p l e R s m args below meth c Q (cells + mc) (slots + ms) cc nL own Ts D cl tys A ret (ws2 u) (pc + 3) lv st) : Y p l e R s m args below meth c Q cells slots cc nL own Ts D cl tys A ret ws pc lv (.ref h :: st) := by
  intro C H locs ls hP hD hS hl
  obtain ⟨hx, hb, hml, hown, hts, hK, hA, hr, hlk, hNW, hAO⟩ := id C
  have hPc : va_P D cl wc H := hP.sub isC (fm_of hC)
  have hDc := hD.sub isC hnC hC
  have hFc := va_free hD hS hA isC hC
  exact va_callv (va_runI (As := []) (rest := st) ⟨hx, hb, hml, hown, hts⟩ (hM H.size) (cwI 0 hts hG hw hrc hrs (hts _ hin) (hts _ hml2) (hts _ hins) hy1 hd hR) ⟨fun a U g mk q => ⟨q.1, q.2.1, q.2.2.1, va_K.moved (u := U) (U := U.calling g mk a) (Vm.Alike.refl U.vm) q.2.2.2.1, q.2.2.2.2.1, NWs.same (u := U) (U := U.calling g mk a) rfl q.2.2.2.2.2.1, va_AO.moved (u := U) (U := U.calling g mk a) (Vm.Alike.refl U.vm) q.2.2.2.2.2.2⟩, fun U hU hW => ⟨rfl, by rw [hU], by rw [hU]; exact hPc, va_K.moved hW.alike hK, hDc.weaken (fun _ _ _ _ => trivial), hNW.warm hW, va_AO.moved hW.alike hAO⟩⟩ rfl rfl hl.1 rfl (lv_room hW) hdg hcs) hS (fun q _ h => hFc q h) hFc (fun u t H1 locs1 ht hvm hw1 hB hz hk hS1 => by
    obtain ⟨hP1, hD1⟩ := hB
    rw [ht] at hP1
    obtain ⟨hP2, hD2⟩ := va_join hP hD isC isR hC hRr hn hdis hk hFc hP1 hD1
    rw [h2 u] at hP2 hD2
    exact kk u C H1 locs1 ls hP2 hD2 hS1 hl)
theorem y_vret {w1 : (Nat → Nat) → va_W} (u : Nat → Nat) (hdg : decode cc pc = .ok (.return_, 1)) (h : ws = w1 u) : Y p l e R s m args below meth c (MQ below (va_Qv (fun _ : Nat → Nat => True) (fun u t => va_P D cl (w1 u) t.heap ∧ va_D A (w1 u)) A) args s cells slots A) cells slots cc nL own Ts D cl tys A none ws pc lv [] := by
  intro C H locs ls hP hD hS hl
  obtain ⟨hx, hb, hml, hown, hts, hK, hA, hr, hlk, hNW, hAO⟩ := id C
  subst h
  exact W.vret hx hb hr (fun t ht hW => ⟨⟨u, rfl, trivial, by rw [ht]; exact hP, hD⟩, hS.F ht⟩) hS.2.2 hdg hlk
end YL
theorem CtI.of {l : Launch} {D : va_G} {cl : List vw_C} {tys : List (ClassId × FieldType)} {cc : ByteArray} {nL : Nat} {own : String} {y : MethodName} {ws ws' : List Cond} {rm : Room} {h mc ms : Nat} {wc : va_W} {w1 : (Nat → Nat) → va_W} (hy : plainName y.cls = true) (ho : y.cls = own) (hn : y.name = "<init>") (hw : ws = Cond.code y cc nL none :: ws') (hlen : (lg_sl [.ref h]).length ≤ nL) (body : ∀ (p : Program) (e : Env) (s : State) (m : MethodId) (args : Array Value) (below : List Frame) (meth : Method) (c : Code) (A : Nat → Prop), meth.name = "<init>" → Y p l e rm s m args below meth c (MQ below (va_Qv (fun _ : Nat → Nat => True) (fun u t => va_P D cl (w1 u) t.heap ∧ va_D A (w1 u)) A) args s mc ms A) 0 0 cc nL own ws D cl tys A none wc 0 (lv_args 0 [.ref h]) []) : CtI l D cl tys y ws rm h wc w1 mc ms := by
  intro sz
  refine Met.ofW (cc := cc) (maxL := nL) (ret := none) hy hw ?_
  intro p e s m args below meth c s₁ B hml hv
  obtain ⟨rfl, hsz, hP, hK, hD0, hNW, hAO⟩ := hv
  subst hsz
  subst ho
  have hin : meth.name = "<init>" := (name_of_methodNamed B.named B.method).1.trans hn
  have hb' := body p e s m [Value.ref h].toArray below meth c (va_A wc s.heap.size) hin
  rw [lg_entry_eq]
  exact hb' ⟨B.exec, B.bytes, hml, findClass_of_methodNamed B.named, atoms_spec (ws := ws) B.pre, hK, fun a h => Or.inr h, B.returns, B.notSynchronized, hNW, hAO⟩ s.heap [] _ hP hD0.self va_S.rf (lv_entry [.ref h] hlen)
