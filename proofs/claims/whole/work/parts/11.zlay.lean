def NWl : List Cond := [(Jvm.Cond.methodLinkNest "PoleBehind" (19 : Nat) ({ cls := "PoleBehind$River", name := "<init>", desc := "()V" } : Jvm.MethodName) "PoleBehind"), (Jvm.Cond.fieldLinkNest "PoleBehind$TextReader" (30 : Nat) "PoleBehind$River" "count" "I" "PoleBehind"), (Jvm.Cond.fieldLinkNest "PoleBehind" (93 : Nat) "PoleBehind$River" "count" "I" "PoleBehind"), (Jvm.Cond.fieldLinkNest "PoleBehind$TextReader" (46 : Nat) "PoleBehind$River" "paceAtFirst" "I" "PoleBehind"), (Jvm.Cond.fieldLinkNest "PoleBehind" (122 : Nat) "PoleBehind$River" "paceAtFirst" "I" "PoleBehind"), (Jvm.Cond.methodLinkNest "PoleBehind" (29 : Nat) ({ cls := "PoleBehind$TextReader", name := "<init>", desc := "()V" } : Jvm.MethodName) "PoleBehind"), (Jvm.Cond.methodLinkNest "PoleBehind" (36 : Nat) ({ cls := "PoleBehind$Journey", name := "<init>", desc := "()V" } : Jvm.MethodName) "PoleBehind"), (Jvm.Cond.fieldLinkNest "PoleBehind" (137 : Nat) "PoleBehind$Journey" "firstWrong" "I" "PoleBehind"), (Jvm.Cond.fieldLinkNest "PoleBehind" (140 : Nat) "PoleBehind$Journey" "spot" "I" "PoleBehind"), (Jvm.Cond.methodLinkNest "PoleBehind" (43 : Nat) ({ cls := "PoleBehind$Readings", name := "<init>", desc := "()V" } : Jvm.MethodName) "PoleBehind"), (Jvm.Cond.fieldLinkNest "PoleBehind" (132 : Nat) "PoleBehind$Readings" "count" "I" "PoleBehind"), (Jvm.Cond.methodLinkNest "PoleBehind" (50 : Nat) ({ cls := "PoleBehind$SureTable", name := "<init>", desc := "()V" } : Jvm.MethodName) "PoleBehind"), (Jvm.Cond.methodLinkNest "PoleBehind" (57 : Nat) ({ cls := "PoleBehind$WayTable", name := "<init>", desc := "()V" } : Jvm.MethodName) "PoleBehind"), (Jvm.Cond.methodLinkNest "PoleBehind" (62 : Nat) ({ cls := "PoleBehind$Row", name := "<init>", desc := "()V" } : Jvm.MethodName) "PoleBehind"), (Jvm.Cond.fieldLinkNest "PoleBehind" (240 : Nat) "PoleBehind$Row" "numbers" "[I" "PoleBehind"), (Jvm.Cond.fieldLinkNest "PoleBehind" (237 : Nat) "PoleBehind$Row" "lane" "I" "PoleBehind"), (Jvm.Cond.methodLinkNest "PoleBehind$River" (60 : Nat) ({ cls := "PoleBehind", name := "cellOf", desc := "(I)I" } : Jvm.MethodName) "PoleBehind"), (Jvm.Cond.methodLinkNest "PoleBehind$River" (70 : Nat) ({ cls := "PoleBehind", name := "paceOf", desc := "(I)I" } : Jvm.MethodName) "PoleBehind"), (Jvm.Cond.methodLinkNest "PoleBehind$Journey" (52 : Nat) ({ cls := "PoleBehind", name := "cellOf", desc := "(I)I" } : Jvm.MethodName) "PoleBehind"), (Jvm.Cond.methodLinkNest "PoleBehind$Journey" (58 : Nat) ({ cls := "PoleBehind", name := "dryTenths", desc := "(II)I" } : Jvm.MethodName) "PoleBehind"), (Jvm.Cond.methodLinkNest "PoleBehind$SureTable" (68 : Nat) ({ cls := "PoleBehind", name := "cellOf", desc := "(I)I" } : Jvm.MethodName) "PoleBehind"), (Jvm.Cond.methodLinkNest "PoleBehind$SureTable" (75 : Nat) ({ cls := "PoleBehind", name := "dryTenths", desc := "(II)I" } : Jvm.MethodName) "PoleBehind"), (Jvm.Cond.methodLinkNest "PoleBehind$SureTable" (46 : Nat) ({ cls := "PoleBehind", name := "tenTo", desc := "(I)J" } : Jvm.MethodName) "PoleBehind"), (Jvm.Cond.methodLinkNest "PoleBehind$WayTable" (33 : Nat) ({ cls := "PoleBehind", name := "cellOf", desc := "(I)I" } : Jvm.MethodName) "PoleBehind"), (Jvm.Cond.methodLinkNest "PoleBehind$River" (39 : Nat) ({ cls := "PoleBehind", name := "asBit", desc := "(Z)I" } : Jvm.MethodName) "PoleBehind")]
def isNest : Cond → Bool
  | .fieldLinkNest .. => true
  | .methodLinkNest .. => true
  | _ => false
theorem NW_nest : ∀ w ∈ NWl, isNest w = true := by decide +kernel
theorem nest_warm {w : Cond} (h : isNest w = true) {s U : State} (hW : s.WarmedH U.vm) (hZ : va_Nw w s) : va_Nw w U := by
  cases w <;> first | exact va_Nw.warmF hW hZ | exact va_Nw.warmM hW hZ | exact absurd h (by simp [isNest])
theorem nest_tab {w : Cond} (h : isNest w = true) : w.onTables = true := by
  cases w <;> first | rfl | exact absurd h (by simp [isNest])
def NWs (U : State) : Prop := ∀ w ∈ NWl, va_Nw w U
theorem NWs.warm {s U : State} (hW : s.WarmedH U.vm) (h : NWs s) : NWs U := fun w hw => nest_warm (NW_nest w hw) hW (h w hw)
theorem NWs.same {u U : State} (hv : u.vm = U.vm) (h : NWs u) : NWs U := fun w hw => va_Nw.same (nest_tab (NW_nest w hw)) hv (h w hw)
/-! cells by numbers: the world is idW n q f: n cells, the i-th at the address q i, holding f i -/
def idW (n : Nat) (q : Nat → Nat) (f : Nat → va_E) : va_W := (List.range n).map (fun i => (q i, f i))
def qOk (n : Nat) (q : Nat → Nat) : Prop := ∀ i j, i < n → j < n → q i = q j → i = j
def AQ (n : Nat) (q : Nat → Nat) (sz : Nat) : Nat → Prop := fun a => (∃ i, i < n ∧ a = q i) ∨ sz ≤ a
theorem idW_get {n : Nat} {q : Nat → Nat} {f : Nat → va_E} {i : Nat} (h : i < n) : (idW n q f)[i]? = some (q i, f i) := by
  unfold idW
  rw [List.getElem?_map, List.getElem?_range h]
  rfl
theorem idW_at {n : Nat} {q : Nat → Nat} {f : Nat → va_E} {i : Nat} {e : va_E} (h : i < n) (hf : f i = e) : (idW n q f)[i]? = some (q i, e) := by
  rw [idW_get h, hf]
theorem idW_some {n : Nat} {q : Nat → Nat} {f : Nat → va_E} {k : Nat} {x : Nat × va_E} (h : (idW n q f)[k]? = some x) : k < n ∧ x = (q k, f k) := by
  have hk : k < n := by
    have := (List.getElem?_eq_some_iff.mp h).1
    simpa [idW] using this
  rw [idW_get hk] at h
  exact ⟨hk, (Option.some.inj h).symm⟩
theorem idW_set {n : Nat} {q : Nat → Nat} {f : Nat → va_E} {i : Nat} {e : va_E} (h : i < n) : (idW n q f).set i (q i, e) = idW n q (va_up f i e) := by
  apply List.ext_getElem?
  intro k
  by_cases hk : k = i
  · subst hk
    rw [List.getElem?_set_self (by simpa [idW] using h), idW_get h, up_s]
  · rw [List.getElem?_set_ne (Ne.symm hk)]
    by_cases hn : k < n
    · rw [idW_get hn, idW_get hn, up_n hk]
    · rw [List.getElem?_eq_none (by simpa [idW] using hn), List.getElem?_eq_none (by simpa [idW] using hn)]
theorem idW_D {n : Nat} {q : Nat → Nat} {f : Nat → va_E} {A : Nat → Prop} (hq : qOk n q) (hA : ∀ i, i < n → A (q i)) : va_D A (idW n q f) := by
  refine ⟨fun i j x y hi hj h => ?_, fun k x hk => ?_⟩
  · obtain ⟨h1, rfl⟩ := idW_some hi
    obtain ⟨h2, rfl⟩ := idW_some hj
    exact hq i j h1 h2 h
  · obtain ⟨h1, rfl⟩ := idW_some hk
    exact hA k h1
def ZC (p : Program) (s : State) (m : MethodId) (args : Array Value) (meth : Method) (c : Code) (cc : ByteArray) (nL : Nat) (own : String) (Ts : List Cond) (D : va_G) (cl : List vw_C) (tys : List (ClassId × FieldType)) (n : Nat) (q : Nat → Nat) (A : Nat → Prop) (ret : Option FieldType) : Prop :=
  p.tables.exec = Jvm.exec ∧ c.code = cc ∧ c.maxLocals = nL ∧ s.vm.findClass own = some m.cls ∧ (∀ w ∈ Ts, w.before args s = true) ∧ va_K D cl tys s ∧ qOk n q ∧ (∀ i, i < n → A (q i)) ∧ (∀ a, s.heap.size ≤ a → A a) ∧ meth.sig.returnType = ret ∧ meth.locks = false ∧ NWs s
def Z (p : Program) (l : Launch) (e : Env) (R : Room) (s : State) (m : MethodId) (args : Array Value) (below : List Frame) (meth : Method) (c : Code) (Q : State → Prop) (cells slots : Nat) (cc : ByteArray) (nL : Nat) (own : String) (Ts : List Cond) (D : va_G) (cl : List vw_C) (tys : List (ClassId × FieldType)) (n : Nat) (q : Nat → Nat) (A : Nat → Prop) (ret : Option FieldType) (f : Nat → va_E) (pc : Nat) (lv : List (Nat × Value)) (st : List Value) : Prop :=
  ZC p s m args meth c cc nL own Ts D cl tys n q A ret → ∀ (H : Heap) (locs : List Loc) (ls : Array Slot), va_P D cl (idW n q f) H → va_S A s.heap H locs → lv_has ls nL lv → W p l e R s m args below meth c H locs cells slots Q (F0 m pc ls st)
section ZL
variable {p : Program} {l : Launch} {e : Env} {R : Room} {s : State} {m : MethodId} {args : Array Value} {below : List Frame} {meth : Method} {c : Code} {Q : State → Prop} {cells slots : Nat} {cc : ByteArray} {nL : Nat} {own : String} {Ts : List Cond} {D : va_G} {cl : List vw_C} {tys : List (ClassId × FieldType)} {n : Nat} {q : Nat → Nat} {A : Nat → Prop} {ret : Option FieldType}
variable {f : Nat → va_E} {pc : Nat} {lv : List (Nat × Value)} {st : List Value}
theorem z_iconst {k : Int} (hdg : decode cc pc = .ok (.iconst k, 1)) (kk : Z p l e R s m args below meth c Q cells slots cc nL own Ts D cl tys n q A ret f (pc + 1) lv (.int (iI k) :: st)) : Z p l e R s m args below meth c Q cells slots cc nL own Ts D cl tys n q A ret f pc lv (st) := by
  intro C H locs ls hP hS hl
  obtain ⟨hx, hb, hml, hown, hts, hK, hq, hA, hN, hr, hlk, hNW⟩ := id C
  exact lv_iconst (v := iI k) hx hb hdg rfl (kk C H locs ls hP hS hl)
theorem z_bipush {k : Int} (hdg : decode cc pc = .ok (.bipush k, 2)) (hv : (Int8.ofInt k).toInt32 = iI k) (kk : Z p l e R s m args below meth c Q cells slots cc nL own Ts D cl tys n q A ret f (pc + 2) lv (.int (iI k) :: st)) : Z p l e R s m args below meth c Q cells slots cc nL own Ts D cl tys n q A ret f pc lv (st) := by
  intro C H locs ls hP hS hl
  obtain ⟨hx, hb, hml, hown, hts, hK, hq, hA, hN, hr, hlk, hNW⟩ := id C
  exact lv_bipush (v := iI k) hx hb hdg hv (kk C H locs ls hP hS hl)
theorem z_sipush {k : Int} (hdg : decode cc pc = .ok (.sipush k, 3)) (hv : (Int16.ofInt k).toInt32 = iI k) (kk : Z p l e R s m args below meth c Q cells slots cc nL own Ts D cl tys n q A ret f (pc + 3) lv (.int (iI k) :: st)) : Z p l e R s m args below meth c Q cells slots cc nL own Ts D cl tys n q A ret f pc lv (st) := by
  intro C H locs ls hP hS hl
  obtain ⟨hx, hb, hml, hown, hts, hK, hq, hA, hN, hr, hlk, hNW⟩ := id C
  exact lv_sipush (v := iI k) hx hb hdg hv (kk C H locs ls hP hS hl)
theorem z_lconst {k : Fin 2} {z : Int} (hdg : decode cc pc = .ok (.lconst k, 1)) (hv : Int64.ofNat (k : Nat) = lI z) (kk : Z p l e R s m args below meth c Q cells slots cc nL own Ts D cl tys n q A ret f (pc + 1) lv (.long (lI z) :: st)) : Z p l e R s m args below meth c Q cells slots cc nL own Ts D cl tys n q A ret f pc lv (st) := by
  intro C H locs ls hP hS hl
  obtain ⟨hx, hb, hml, hown, hts, hK, hq, hA, hN, hr, hlk, hNW⟩ := id C
  exact lv_lconst (v := lI z) hx hb hdg hv (kk C H locs ls hP hS hl)
theorem z_null  (hdg : decode cc pc = .ok (.aconst_null, 1)) (kk : Z p l e R s m args below meth c Q cells slots cc nL own Ts D cl tys n q A ret f (pc + 1) lv (.null :: st)) : Z p l e R s m args below meth c Q cells slots cc nL own Ts D cl tys n q A ret f pc lv (st) := by
  intro C H locs ls hP hS hl
  obtain ⟨hx, hb, hml, hown, hts, hK, hq, hA, hN, hr, hlk, hNW⟩ := id C
  exact lv_null hx hb hdg (kk C H locs ls hP hS hl)
theorem z_iload_n {k : Fin 4} {i j : Nat} {x : Int32} (hdg : decode cc pc = .ok (.iload_n k, 1)) (hi : (k : Nat) = i) (hj : lv[j]? = some (i, .int x)) (kk : Z p l e R s m args below meth c Q cells slots cc nL own Ts D cl tys n q A ret f (pc + 1) lv (.int x :: st)) : Z p l e R s m args below meth c Q cells slots cc nL own Ts D cl tys n q A ret f pc lv (st) := by
  intro C H locs ls hP hS hl
  obtain ⟨hx, hb, hml, hown, hts, hK, hq, hA, hN, hr, hlk, hNW⟩ := id C
  exact lv_iload_n hx hb hdg hi (lv_at hl j hj) (kk C H locs ls hP hS hl)
theorem z_iload {i j : Nat} {x : Int32} (hdg : decode cc pc = .ok (.iload i, 2)) (hj : lv[j]? = some (i, .int x)) (kk : Z p l e R s m args below meth c Q cells slots cc nL own Ts D cl tys n q A ret f (pc + 2) lv (.int x :: st)) : Z p l e R s m args below meth c Q cells slots cc nL own Ts D cl tys n q A ret f pc lv (st) := by
  intro C H locs ls hP hS hl
  obtain ⟨hx, hb, hml, hown, hts, hK, hq, hA, hN, hr, hlk, hNW⟩ := id C
  exact lv_iload hx hb hdg (lv_at hl j hj) (kk C H locs ls hP hS hl)
theorem z_lload_n {k : Fin 4} {i j : Nat} {x : Int64} (hdg : decode cc pc = .ok (.lload_n k, 1)) (hi : (k : Nat) = i) (hj : lv[j]? = some (i, .long x)) (kk : Z p l e R s m args below meth c Q cells slots cc nL own Ts D cl tys n q A ret f (pc + 1) lv (.long x :: st)) : Z p l e R s m args below meth c Q cells slots cc nL own Ts D cl tys n q A ret f pc lv (st) := by
  intro C H locs ls hP hS hl
  obtain ⟨hx, hb, hml, hown, hts, hK, hq, hA, hN, hr, hlk, hNW⟩ := id C
  exact lv_lload_n hx hb hdg hi (lv_at hl j hj) (kk C H locs ls hP hS hl)
theorem z_lload {i j : Nat} {x : Int64} (hdg : decode cc pc = .ok (.lload i, 2)) (hj : lv[j]? = some (i, .long x)) (kk : Z p l e R s m args below meth c Q cells slots cc nL own Ts D cl tys n q A ret f (pc + 2) lv (.long x :: st)) : Z p l e R s m args below meth c Q cells slots cc nL own Ts D cl tys n q A ret f pc lv (st) := by
  intro C H locs ls hP hS hl
  obtain ⟨hx, hb, hml, hown, hts, hK, hq, hA, hN, hr, hlk, hNW⟩ := id C
  exact lv_lload hx hb hdg (lv_at hl j hj) (kk C H locs ls hP hS hl)
theorem z_aload_n {k : Fin 4} {i j : Nat} {x : Nat} (hdg : decode cc pc = .ok (.aload_n k, 1)) (hi : (k : Nat) = i) (hj : lv[j]? = some (i, .ref x)) (kk : Z p l e R s m args below meth c Q cells slots cc nL own Ts D cl tys n q A ret f (pc + 1) lv (.ref x :: st)) : Z p l e R s m args below meth c Q cells slots cc nL own Ts D cl tys n q A ret f pc lv (st) := by
  intro C H locs ls hP hS hl
  obtain ⟨hx, hb, hml, hown, hts, hK, hq, hA, hN, hr, hlk, hNW⟩ := id C
  exact lv_aload_n hx hb hdg hi (lv_at hl j hj) (kk C H locs ls hP hS hl)
theorem z_aload {i j : Nat} {x : Nat} (hdg : decode cc pc = .ok (.aload i, 2)) (hj : lv[j]? = some (i, .ref x)) (kk : Z p l e R s m args below meth c Q cells slots cc nL own Ts D cl tys n q A ret f (pc + 2) lv (.ref x :: st)) : Z p l e R s m args below meth c Q cells slots cc nL own Ts D cl tys n q A ret f pc lv (st) := by
  intro C H locs ls hP hS hl
  obtain ⟨hx, hb, hml, hown, hts, hK, hq, hA, hN, hr, hlk, hNW⟩ := id C
  exact lv_aload hx hb hdg (lv_at hl j hj) (kk C H locs ls hP hS hl)
theorem z_istore_n {k : Fin 4} {i : Nat} {x : Int32} (lv' : List (Nat × Value)) (hdg : decode cc pc = .ok (.istore_n k, 1)) (hi : (k : Nat) = i) (hn : i < nL) (hl' : (i, Value.int x) :: lv.filter (fun q => !(q.1 == i) && !(q.1 + 1 == i && q.2.category == 2)) = lv') (kk : Z p l e R s m args below meth c Q cells slots cc nL own Ts D cl tys n q A ret f (pc + 1) lv' (st)) : Z p l e R s m args below meth c Q cells slots cc nL own Ts D cl tys n q A ret f pc lv (.int x :: st) := by
  intro C H locs ls hP hS hl
  obtain ⟨hx, hb, hml, hown, hts, hK, hq, hA, hN, hr, hlk, hNW⟩ := id C
  exact lv_istore_n (lv' := lv') hx hb hdg hi hl hn hl' (fun ls2 hl2 => kk C H locs ls2 hP hS hl2)
theorem z_istore {i : Nat} {x : Int32} (lv' : List (Nat × Value)) (hdg : decode cc pc = .ok (.istore i, 2)) (hn : i < nL) (hl' : (i, Value.int x) :: lv.filter (fun q => !(q.1 == i) && !(q.1 + 1 == i && q.2.category == 2)) = lv') (kk : Z p l e R s m args below meth c Q cells slots cc nL own Ts D cl tys n q A ret f (pc + 2) lv' (st)) : Z p l e R s m args below meth c Q cells slots cc nL own Ts D cl tys n q A ret f pc lv (.int x :: st) := by
  intro C H locs ls hP hS hl
  obtain ⟨hx, hb, hml, hown, hts, hK, hq, hA, hN, hr, hlk, hNW⟩ := id C
  exact lv_istore (lv' := lv') hx hb hdg hl hn hl' (fun ls2 hl2 => kk C H locs ls2 hP hS hl2)
theorem z_lstore_n {k : Fin 4} {i : Nat} {x : Int64} (lv' : List (Nat × Value)) (hdg : decode cc pc = .ok (.lstore_n k, 1)) (hi : (k : Nat) = i) (hn : i + 1 < nL) (hl' : (i, Value.long x) :: lv.filter (fun q => !(q.1 == i) && (!(q.1 == i + 1) && !(q.1 + 1 == i && q.2.category == 2))) = lv') (kk : Z p l e R s m args below meth c Q cells slots cc nL own Ts D cl tys n q A ret f (pc + 1) lv' (st)) : Z p l e R s m args below meth c Q cells slots cc nL own Ts D cl tys n q A ret f pc lv (.long x :: st) := by
  intro C H locs ls hP hS hl
  obtain ⟨hx, hb, hml, hown, hts, hK, hq, hA, hN, hr, hlk, hNW⟩ := id C
  exact lv_lstore_n (lv' := lv') hx hb hdg hi hl hn hl' (fun ls2 hl2 => kk C H locs ls2 hP hS hl2)
theorem z_lstore {i : Nat} {x : Int64} (lv' : List (Nat × Value)) (hdg : decode cc pc = .ok (.lstore i, 2)) (hn : i + 1 < nL) (hl' : (i, Value.long x) :: lv.filter (fun q => !(q.1 == i) && (!(q.1 == i + 1) && !(q.1 + 1 == i && q.2.category == 2))) = lv') (kk : Z p l e R s m args below meth c Q cells slots cc nL own Ts D cl tys n q A ret f (pc + 2) lv' (st)) : Z p l e R s m args below meth c Q cells slots cc nL own Ts D cl tys n q A ret f pc lv (.long x :: st) := by
  intro C H locs ls hP hS hl
  obtain ⟨hx, hb, hml, hown, hts, hK, hq, hA, hN, hr, hlk, hNW⟩ := id C
  exact lv_lstore (lv' := lv') hx hb hdg hl hn hl' (fun ls2 hl2 => kk C H locs ls2 hP hS hl2)
theorem z_astore_n {k : Fin 4} {i : Nat} {x : Nat} (lv' : List (Nat × Value)) (hdg : decode cc pc = .ok (.astore_n k, 1)) (hi : (k : Nat) = i) (hn : i < nL) (hl' : (i, Value.ref x) :: lv.filter (fun q => !(q.1 == i) && !(q.1 + 1 == i && q.2.category == 2)) = lv') (kk : Z p l e R s m args below meth c Q cells slots cc nL own Ts D cl tys n q A ret f (pc + 1) lv' (st)) : Z p l e R s m args below meth c Q cells slots cc nL own Ts D cl tys n q A ret f pc lv (.ref x :: st) := by
  intro C H locs ls hP hS hl
  obtain ⟨hx, hb, hml, hown, hts, hK, hq, hA, hN, hr, hlk, hNW⟩ := id C
  exact lv_astore_n (lv' := lv') hx hb hdg hi hl hn hl' (fun ls2 hl2 => kk C H locs ls2 hP hS hl2)
theorem z_astore {i : Nat} {x : Nat} (lv' : List (Nat × Value)) (hdg : decode cc pc = .ok (.astore i, 2)) (hn : i < nL) (hl' : (i, Value.ref x) :: lv.filter (fun q => !(q.1 == i) && !(q.1 + 1 == i && q.2.category == 2)) = lv') (kk : Z p l e R s m args below meth c Q cells slots cc nL own Ts D cl tys n q A ret f (pc + 2) lv' (st)) : Z p l e R s m args below meth c Q cells slots cc nL own Ts D cl tys n q A ret f pc lv (.ref x :: st) := by
  intro C H locs ls hP hS hl
  obtain ⟨hx, hb, hml, hown, hts, hK, hq, hA, hN, hr, hlk, hNW⟩ := id C
  exact lv_astore (lv' := lv') hx hb hdg hl hn hl' (fun ls2 hl2 => kk C H locs ls2 hP hS hl2)
theorem z_iinc {i j : Nat} {k a : Int} (lv' : List (Nat × Value)) (hdg : decode cc pc = .ok (.iinc i k, 3)) (hj : lv[j]? = some (i, .int (iI a))) (hn : i < nL) (hl' : (i, Value.int (iI (a + k))) :: lv.filter (fun q => !(q.1 == i) && !(q.1 + 1 == i && q.2.category == 2)) = lv') (kk : Z p l e R s m args below meth c Q cells slots cc nL own Ts D cl tys n q A ret f (pc + 3) lv' (st)) : Z p l e R s m args below meth c Q cells slots cc nL own Ts D cl tys n q A ret f pc lv (st) := by
  intro C H locs ls hP hS hl
  obtain ⟨hx, hb, hml, hown, hts, hK, hq, hA, hN, hr, hlk, hNW⟩ := id C
  exact lv_iinc (v := iI (a + k)) (lv' := lv') hx hb hdg hl hj (iI_add a k) hn hl' (fun ls2 hl2 => kk C H locs ls2 hP hS hl2)
theorem z_sub (lv' : List (Nat × Value)) (ks : List Nat) (h : lv_pick lv ks = lv') (kk : Z p l e R s m args below meth c Q cells slots cc nL own Ts D cl tys n q A ret f pc lv' st) : Z p l e R s m args below meth c Q cells slots cc nL own Ts D cl tys n q A ret f pc lv st := by
  intro C H locs ls hP hS hl
  exact kk C H locs ls hP hS (lv_sub hl ks h)
theorem z_iadd {a b : Int} (hdg : decode cc pc = .ok (.iadd, 1)) (kk : Z p l e R s m args below meth c Q cells slots cc nL own Ts D cl tys n q A ret f (pc + 1) lv (.int (iI (a + b)) :: st)) : Z p l e R s m args below meth c Q cells slots cc nL own Ts D cl tys n q A ret f pc lv (.int (iI b) :: .int (iI a) :: st) := by
  intro C H locs ls hP hS hl
  obtain ⟨hx, hb, hml, hown, hts, hK, hq, hA, hN, hr, hlk, hNW⟩ := id C
  exact lv_iadd hx hb hdg (by rw [iI_add]; exact kk C H locs ls hP hS hl)
theorem z_isub {a b : Int} (hdg : decode cc pc = .ok (.isub, 1)) (kk : Z p l e R s m args below meth c Q cells slots cc nL own Ts D cl tys n q A ret f (pc + 1) lv (.int (iI (a - b)) :: st)) : Z p l e R s m args below meth c Q cells slots cc nL own Ts D cl tys n q A ret f pc lv (.int (iI b) :: .int (iI a) :: st) := by
  intro C H locs ls hP hS hl
  obtain ⟨hx, hb, hml, hown, hts, hK, hq, hA, hN, hr, hlk, hNW⟩ := id C
  exact lv_isub hx hb hdg (by rw [iI_sub]; exact kk C H locs ls hP hS hl)
theorem z_imul {a b : Int} (hdg : decode cc pc = .ok (.imul, 1)) (kk : Z p l e R s m args below meth c Q cells slots cc nL own Ts D cl tys n q A ret f (pc + 1) lv (.int (iI (a * b)) :: st)) : Z p l e R s m args below meth c Q cells slots cc nL own Ts D cl tys n q A ret f pc lv (.int (iI b) :: .int (iI a) :: st) := by
  intro C H locs ls hP hS hl
  obtain ⟨hx, hb, hml, hown, hts, hK, hq, hA, hN, hr, hlk, hNW⟩ := id C
  exact lv_imul hx hb hdg (by rw [iI_mul]; exact kk C H locs ls hP hS hl)
theorem z_ladd {a b : Int} (hdg : decode cc pc = .ok (.ladd, 1)) (kk : Z p l e R s m args below meth c Q cells slots cc nL own Ts D cl tys n q A ret f (pc + 1) lv (.long (lI (a + b)) :: st)) : Z p l e R s m args below meth c Q cells slots cc nL own Ts D cl tys n q A ret f pc lv (.long (lI b) :: .long (lI a) :: st) := by
  intro C H locs ls hP hS hl
  obtain ⟨hx, hb, hml, hown, hts, hK, hq, hA, hN, hr, hlk, hNW⟩ := id C
  exact lv_ladd hx hb hdg (by rw [lI_add]; exact kk C H locs ls hP hS hl)
theorem z_lsub {a b : Int} (hdg : decode cc pc = .ok (.lsub, 1)) (kk : Z p l e R s m args below meth c Q cells slots cc nL own Ts D cl tys n q A ret f (pc + 1) lv (.long (lI (a - b)) :: st)) : Z p l e R s m args below meth c Q cells slots cc nL own Ts D cl tys n q A ret f pc lv (.long (lI b) :: .long (lI a) :: st) := by
  intro C H locs ls hP hS hl
  obtain ⟨hx, hb, hml, hown, hts, hK, hq, hA, hN, hr, hlk, hNW⟩ := id C
  exact lv_lsub hx hb hdg (by rw [lI_sub]; exact kk C H locs ls hP hS hl)
theorem z_lmul {a b : Int} (hdg : decode cc pc = .ok (.lmul, 1)) (kk : Z p l e R s m args below meth c Q cells slots cc nL own Ts D cl tys n q A ret f (pc + 1) lv (.long (lI (a * b)) :: st)) : Z p l e R s m args below meth c Q cells slots cc nL own Ts D cl tys n q A ret f pc lv (.long (lI b) :: .long (lI a) :: st) := by
  intro C H locs ls hP hS hl
  obtain ⟨hx, hb, hml, hown, hts, hK, hq, hA, hN, hr, hlk, hNW⟩ := id C
  exact lv_lmul hx hb hdg (by rw [lI_mul]; exact kk C H locs ls hP hS hl)
theorem z_idiv {a b : Int} (hdg : decode cc pc = .ok (.idiv, 1)) (ha : 0 ≤ a ∧ a < 2147483648) (hb0 : 0 < b ∧ b < 2147483648) (kk : Z p l e R s m args below meth c Q cells slots cc nL own Ts D cl tys n q A ret f (pc + 1) lv (.int (iI (a / b)) :: st)) : Z p l e R s m args below meth c Q cells slots cc nL own Ts D cl tys n q A ret f pc lv (.int (iI b) :: .int (iI a) :: st) := by
  intro C H locs ls hP hS hl
  obtain ⟨hx, hb, hml, hown, hts, hK, hq, hA, hN, hr, hlk, hNW⟩ := id C
  exact lv_idiv hx hb hdg (fun h => by have := (iI_eq0 (by omega)).mp h; omega) (by rw [iI_div ha hb0]; exact kk C H locs ls hP hS hl)
theorem z_irem {a b : Int} (hdg : decode cc pc = .ok (.irem, 1)) (ha : 0 ≤ a ∧ a < 2147483648) (hb0 : 0 < b ∧ b < 2147483648) (kk : Z p l e R s m args below meth c Q cells slots cc nL own Ts D cl tys n q A ret f (pc + 1) lv (.int (iI (a % b)) :: st)) : Z p l e R s m args below meth c Q cells slots cc nL own Ts D cl tys n q A ret f pc lv (.int (iI b) :: .int (iI a) :: st) := by
  intro C H locs ls hP hS hl
  obtain ⟨hx, hb, hml, hown, hts, hK, hq, hA, hN, hr, hlk, hNW⟩ := id C
  exact lv_irem hx hb hdg (fun h => by have := (iI_eq0 (by omega)).mp h; omega) (by rw [iI_rem ha hb0]; exact kk C H locs ls hP hS hl)
theorem z_ldiv {a b : Int} (hdg : decode cc pc = .ok (.ldiv, 1)) (ha : 0 ≤ a ∧ a < 9223372036854775808) (hb0 : 0 < b ∧ b < 9223372036854775808) (kk : Z p l e R s m args below meth c Q cells slots cc nL own Ts D cl tys n q A ret f (pc + 1) lv (.long (lI (a / b)) :: st)) : Z p l e R s m args below meth c Q cells slots cc nL own Ts D cl tys n q A ret f pc lv (.long (lI b) :: .long (lI a) :: st) := by
  intro C H locs ls hP hS hl
  obtain ⟨hx, hb, hml, hown, hts, hK, hq, hA, hN, hr, hlk, hNW⟩ := id C
  exact lv_ldiv hx hb hdg (fun h => by have := (lI_eq0 (by omega)).mp h; omega) (by rw [lI_div ha hb0]; exact kk C H locs ls hP hS hl)
theorem z_lrem {a b : Int} (hdg : decode cc pc = .ok (.lrem, 1)) (ha : 0 ≤ a ∧ a < 9223372036854775808) (hb0 : 0 < b ∧ b < 9223372036854775808) (kk : Z p l e R s m args below meth c Q cells slots cc nL own Ts D cl tys n q A ret f (pc + 1) lv (.long (lI (a % b)) :: st)) : Z p l e R s m args below meth c Q cells slots cc nL own Ts D cl tys n q A ret f pc lv (.long (lI b) :: .long (lI a) :: st) := by
  intro C H locs ls hP hS hl
  obtain ⟨hx, hb, hml, hown, hts, hK, hq, hA, hN, hr, hlk, hNW⟩ := id C
  exact lv_lrem hx hb hdg (fun h => by have := (lI_eq0 (by omega)).mp h; omega) (by rw [lI_rem ha hb0]; exact kk C H locs ls hP hS hl)
theorem z_iand {x y : Int32} (v : Int32) (hdg : decode cc pc = .ok (.iand, 1)) (hv : x &&& y = v) (kk : Z p l e R s m args below meth c Q cells slots cc nL own Ts D cl tys n q A ret f (pc + 1) lv (.int v :: st)) : Z p l e R s m args below meth c Q cells slots cc nL own Ts D cl tys n q A ret f pc lv (.int y :: .int x :: st) := by
  intro C H locs ls hP hS hl
  obtain ⟨hx, hb, hml, hown, hts, hK, hq, hA, hN, hr, hlk, hNW⟩ := id C
  subst hv
  exact lv_iand hx hb hdg (kk C H locs ls hP hS hl)
theorem z_ior {x y : Int32} (v : Int32) (hdg : decode cc pc = .ok (.ior, 1)) (hv : x ||| y = v) (kk : Z p l e R s m args below meth c Q cells slots cc nL own Ts D cl tys n q A ret f (pc + 1) lv (.int v :: st)) : Z p l e R s m args below meth c Q cells slots cc nL own Ts D cl tys n q A ret f pc lv (.int y :: .int x :: st) := by
  intro C H locs ls hP hS hl
  obtain ⟨hx, hb, hml, hown, hts, hK, hq, hA, hN, hr, hlk, hNW⟩ := id C
  subst hv
  exact lv_ior hx hb hdg (kk C H locs ls hP hS hl)
theorem z_land {x y : Int64} (v : Int64) (hdg : decode cc pc = .ok (.land, 1)) (hv : x &&& y = v) (kk : Z p l e R s m args below meth c Q cells slots cc nL own Ts D cl tys n q A ret f (pc + 1) lv (.long v :: st)) : Z p l e R s m args below meth c Q cells slots cc nL own Ts D cl tys n q A ret f pc lv (.long y :: .long x :: st) := by
  intro C H locs ls hP hS hl
  obtain ⟨hx, hb, hml, hown, hts, hK, hq, hA, hN, hr, hlk, hNW⟩ := id C
  subst hv
  exact lv_land hx hb hdg (kk C H locs ls hP hS hl)
theorem z_lor {x y : Int64} (v : Int64) (hdg : decode cc pc = .ok (.lor, 1)) (hv : x ||| y = v) (kk : Z p l e R s m args below meth c Q cells slots cc nL own Ts D cl tys n q A ret f (pc + 1) lv (.long v :: st)) : Z p l e R s m args below meth c Q cells slots cc nL own Ts D cl tys n q A ret f pc lv (.long y :: .long x :: st) := by
  intro C H locs ls hP hS hl
  obtain ⟨hx, hb, hml, hown, hts, hK, hq, hA, hN, hr, hlk, hNW⟩ := id C
  subst hv
  exact lv_lor hx hb hdg (kk C H locs ls hP hS hl)
theorem z_ishl {x y : Int32} (v : Int32) (hdg : decode cc pc = .ok (.ishl, 1)) (hv : x <<< (y &&& 31) = v) (kk : Z p l e R s m args below meth c Q cells slots cc nL own Ts D cl tys n q A ret f (pc + 1) lv (.int v :: st)) : Z p l e R s m args below meth c Q cells slots cc nL own Ts D cl tys n q A ret f pc lv (.int y :: .int x :: st) := by
  intro C H locs ls hP hS hl
  obtain ⟨hx, hb, hml, hown, hts, hK, hq, hA, hN, hr, hlk, hNW⟩ := id C
  subst hv
  exact lv_ishl hx hb hdg (kk C H locs ls hP hS hl)
theorem z_ishr {x y : Int32} (v : Int32) (hdg : decode cc pc = .ok (.ishr, 1)) (hv : x >>> (y &&& 31) = v) (kk : Z p l e R s m args below meth c Q cells slots cc nL own Ts D cl tys n q A ret f (pc + 1) lv (.int v :: st)) : Z p l e R s m args below meth c Q cells slots cc nL own Ts D cl tys n q A ret f pc lv (.int y :: .int x :: st) := by
  intro C H locs ls hP hS hl
  obtain ⟨hx, hb, hml, hown, hts, hK, hq, hA, hN, hr, hlk, hNW⟩ := id C
  subst hv
  exact lv_ishr hx hb hdg (kk C H locs ls hP hS hl)
theorem z_iushr {x y : Int32} (v : Int32) (hdg : decode cc pc = .ok (.iushr, 1)) (hv : (x.toUInt32 >>> (y.toUInt32 &&& Int32.toUInt32 31)).toInt32 = v) (kk : Z p l e R s m args below meth c Q cells slots cc nL own Ts D cl tys n q A ret f (pc + 1) lv (.int v :: st)) : Z p l e R s m args below meth c Q cells slots cc nL own Ts D cl tys n q A ret f pc lv (.int y :: .int x :: st) := by
  intro C H locs ls hP hS hl
  obtain ⟨hx, hb, hml, hown, hts, hK, hq, hA, hN, hr, hlk, hNW⟩ := id C
  exact lv_iushr hx hb hdg hv (kk C H locs ls hP hS hl)
theorem z_lshl {x v : Int64} {y : Int32} (hdg : decode cc pc = .ok (.lshl, 1)) (hv : x <<< (y.toInt64 &&& 63) = v) (kk : Z p l e R s m args below meth c Q cells slots cc nL own Ts D cl tys n q A ret f (pc + 1) lv (.long v :: st)) : Z p l e R s m args below meth c Q cells slots cc nL own Ts D cl tys n q A ret f pc lv (.int y :: .long x :: st) := by
  intro C H locs ls hP hS hl
  obtain ⟨hx, hb, hml, hown, hts, hK, hq, hA, hN, hr, hlk, hNW⟩ := id C
  exact lv_lshl hx hb hdg hv (kk C H locs ls hP hS hl)
theorem z_lushr {x v : Int64} {y : Int32} (hdg : decode cc pc = .ok (.lushr, 1)) (hv : (x.toUInt64 >>> (y.toInt64.toUInt64 &&& Int64.toUInt64 63)).toInt64 = v) (kk : Z p l e R s m args below meth c Q cells slots cc nL own Ts D cl tys n q A ret f (pc + 1) lv (.long v :: st)) : Z p l e R s m args below meth c Q cells slots cc nL own Ts D cl tys n q A ret f pc lv (.int y :: .long x :: st) := by
  intro C H locs ls hP hS hl
  obtain ⟨hx, hb, hml, hown, hts, hK, hq, hA, hN, hr, hlk, hNW⟩ := id C
  exact lv_lushr hx hb hdg hv (kk C H locs ls hP hS hl)
theorem z_i2l {a : Int} (hdg : decode cc pc = .ok (.i2l, 1)) (ha : -2147483648 ≤ a ∧ a < 2147483648) (kk : Z p l e R s m args below meth c Q cells slots cc nL own Ts D cl tys n q A ret f (pc + 1) lv (.long (lI a) :: st)) : Z p l e R s m args below meth c Q cells slots cc nL own Ts D cl tys n q A ret f pc lv (.int (iI a) :: st) := by
  intro C H locs ls hP hS hl
  obtain ⟨hx, hb, hml, hown, hts, hK, hq, hA, hN, hr, hlk, hNW⟩ := id C
  exact lv_i2l hx hb hdg (iI_l ha) (kk C H locs ls hP hS hl)
theorem z_i2b {a : Int} (hdg : decode cc pc = .ok (.i2b, 1)) (kk : Z p l e R s m args below meth c Q cells slots cc nL own Ts D cl tys n q A ret f (pc + 1) lv (.int (iI (cut8 a)) :: st)) : Z p l e R s m args below meth c Q cells slots cc nL own Ts D cl tys n q A ret f pc lv (.int (iI a) :: st) := by
  intro C H locs ls hP hS hl
  obtain ⟨hx, hb, hml, hown, hts, hK, hq, hA, hN, hr, hlk, hNW⟩ := id C
  exact lv_i2b hx hb hdg (iI_cut8 a) (kk C H locs ls hP hS hl)
theorem z_i2s {a : Int} (hdg : decode cc pc = .ok (.i2s, 1)) (kk : Z p l e R s m args below meth c Q cells slots cc nL own Ts D cl tys n q A ret f (pc + 1) lv (.int (iI (cut16 a)) :: st)) : Z p l e R s m args below meth c Q cells slots cc nL own Ts D cl tys n q A ret f pc lv (.int (iI a) :: st) := by
  intro C H locs ls hP hS hl
  obtain ⟨hx, hb, hml, hown, hts, hK, hq, hA, hN, hr, hlk, hNW⟩ := id C
  exact lv_i2s hx hb hdg (iI_cut16 a) (kk C H locs ls hP hS hl)
theorem z_dup {v : Value} (hdg : decode cc pc = .ok (.dup, 1)) (hv : v.category = 1) (kk : Z p l e R s m args below meth c Q cells slots cc nL own Ts D cl tys n q A ret f (pc + 1) lv (v :: v :: st)) : Z p l e R s m args below meth c Q cells slots cc nL own Ts D cl tys n q A ret f pc lv (v :: st) := by
  intro C H locs ls hP hS hl
  obtain ⟨hx, hb, hml, hown, hts, hK, hq, hA, hN, hr, hlk, hNW⟩ := id C
  exact lv_dup hx hb hdg hv (kk C H locs ls hP hS hl)
theorem z_lcmp {a b : Int} (hdg : decode cc pc = .ok (.lcmp, 1)) (ha : -9223372036854775808 ≤ a ∧ a < 9223372036854775808) (hb2 : -9223372036854775808 ≤ b ∧ b < 9223372036854775808) (kk : ∀ r : Int, ((a < b ∧ r = -1) ∨ (a = b ∧ r = 0) ∨ (b < a ∧ r = 1)) → Z p l e R s m args below meth c Q cells slots cc nL own Ts D cl tys n q A ret f (pc + 1) lv (.int (iI r) :: st)) : Z p l e R s m args below meth c Q cells slots cc nL own Ts D cl tys n q A ret f pc lv (.long (lI b) :: .long (lI a) :: st) := by
  intro C H locs ls hP hS hl
  obtain ⟨hx, hb, hml, hown, hts, hK, hq, hA, hN, hr, hlk, hNW⟩ := id C
  obtain ⟨r, h1, h2⟩ := lg_cmp_lI ha hb2
  exact W.lcmp hx hb hdg (by rw [h2]; exact kk r h1 C H locs ls hP hS hl)
theorem z_ldcw {k : Nat} {a : Int} (hdg : decode cc pc = .ok (.ldc_w k, 3)) (hm : Cond.constant own k (iI a) ∈ Ts) (kk : Z p l e R s m args below meth c Q cells slots cc nL own Ts D cl tys n q A ret f (pc + 3) lv (.int (iI a) :: st)) : Z p l e R s m args below meth c Q cells slots cc nL own Ts D cl tys n q A ret f pc lv (st) := by
  intro C H locs ls hP hS hl
  obtain ⟨hx, hb, hml, hown, hts, hK, hq, hA, hN, hr, hlk, hNW⟩ := id C
  exact lv_ldcw hx hb hown (hts _ hm) hdg (kk C H locs ls hP hS hl)
theorem z_ldc {k : Nat} {a : Int} (hdg : decode cc pc = .ok (.ldc k, 2)) (hm : Cond.constant own k (iI a) ∈ Ts) (kk : Z p l e R s m args below meth c Q cells slots cc nL own Ts D cl tys n q A ret f (pc + 2) lv (.int (iI a) :: st)) : Z p l e R s m args below meth c Q cells slots cc nL own Ts D cl tys n q A ret f pc lv (st) := by
  intro C H locs ls hP hS hl
  obtain ⟨hx, hb, hml, hown, hts, hK, hq, hA, hN, hr, hlk, hNW⟩ := id C
  exact lv_ldc hx hb hown (hts _ hm) hdg (kk C H locs ls hP hS hl)
theorem z_ldc2 {k : Nat} {a : Int} (hdg : decode cc pc = .ok (.ldc2_w k, 3)) (hm : Cond.constantLong own k (lI a) ∈ Ts) (kk : Z p l e R s m args below meth c Q cells slots cc nL own Ts D cl tys n q A ret f (pc + 3) lv (.long (lI a) :: st)) : Z p l e R s m args below meth c Q cells slots cc nL own Ts D cl tys n q A ret f pc lv (st) := by
  intro C H locs ls hP hS hl
  obtain ⟨hx, hb, hml, hown, hts, hK, hq, hA, hN, hr, hlk, hNW⟩ := id C
  exact lv_ldc2 hx hb hown (hts _ hm) hdg (kk C H locs ls hP hS hl)
theorem z_goto {off : Int} {tgt : Nat} (hdg : decode cc pc = .ok (.goto off, 3)) (ht : (pc : Int) + off = (tgt : Int)) (kk : Z p l e R s m args below meth c Q cells slots cc nL own Ts D cl tys n q A ret f (tgt) lv (st)) : Z p l e R s m args below meth c Q cells slots cc nL own Ts D cl tys n q A ret f pc lv (st) := by
  intro C H locs ls hP hS hl
  obtain ⟨hx, hb, hml, hown, hts, hK, hq, hA, hN, hr, hlk, hNW⟩ := id C
  exact lv_goto hx hb hdg ht (kk C H locs ls hP hS hl)
theorem z_if_eq {a : Int} {off : Int} {tgt : Nat} (hdg : decode cc pc = .ok (.ifCond .eq off, 3)) (ht : (pc : Int) + off = (tgt : Int)) (ha : -2147483648 ≤ a ∧ a < 2147483648) (kt : a = 0 → Z p l e R s m args below meth c Q cells slots cc nL own Ts D cl tys n q A ret f tgt lv st) (kf : ¬ a = 0 → Z p l e R s m args below meth c Q cells slots cc nL own Ts D cl tys n q A ret f (pc + 3) lv st) : Z p l e R s m args below meth c Q cells slots cc nL own Ts D cl tys n q A ret f pc lv (.int (iI a) :: st) := by
  intro C H locs ls hP hS hl
  obtain ⟨hx, hb, hml, hown, hts, hK, hq, hA, hN, hr, hlk, hNW⟩ := id C
  first
    | exact lv_if_eq hx hb hdg ht (fun h => kt ((iI_eq0 ha).mp h) C H locs ls hP hS hl) (fun h => kf (fun z => h ((iI_eq0 ha).mpr z)) C H locs ls hP hS hl)
    | exact lv_if_eq hx hb hdg ht (fun h => kt ((iI_eq0 ha).mp h) C H locs ls hP hS hl) (fun h => kf (fun z => h ((iI_eq0 ha).mpr z)) C H locs ls hP hS hl)
theorem z_if_ne {a : Int} {off : Int} {tgt : Nat} (hdg : decode cc pc = .ok (.ifCond .ne off, 3)) (ht : (pc : Int) + off = (tgt : Int)) (ha : -2147483648 ≤ a ∧ a < 2147483648) (kt : ¬ a = 0 → Z p l e R s m args below meth c Q cells slots cc nL own Ts D cl tys n q A ret f tgt lv st) (kf : a = 0 → Z p l e R s m args below meth c Q cells slots cc nL own Ts D cl tys n q A ret f (pc + 3) lv st) : Z p l e R s m args below meth c Q cells slots cc nL own Ts D cl tys n q A ret f pc lv (.int (iI a) :: st) := by
  intro C H locs ls hP hS hl
  obtain ⟨hx, hb, hml, hown, hts, hK, hq, hA, hN, hr, hlk, hNW⟩ := id C
  first
    | exact lv_if_ne hx hb hdg ht (fun h => kt (fun z => h ((iI_eq0 ha).mpr z)) C H locs ls hP hS hl) (fun h => kf ((iI_eq0 ha).mp (Classical.not_not.mp h)) C H locs ls hP hS hl)
    | exact lv_if_ne hx hb hdg ht (fun h => kt (fun z => h ((iI_eq0 ha).mpr z)) C H locs ls hP hS hl) (fun h => kf ((iI_eq0 ha).mp h) C H locs ls hP hS hl)
theorem z_if_lt {a : Int} {off : Int} {tgt : Nat} (hdg : decode cc pc = .ok (.ifCond .lt off, 3)) (ht : (pc : Int) + off = (tgt : Int)) (ha : -2147483648 ≤ a ∧ a < 2147483648) (kt : a < 0 → Z p l e R s m args below meth c Q cells slots cc nL own Ts D cl tys n q A ret f tgt lv st) (kf : ¬ a < 0 → Z p l e R s m args below meth c Q cells slots cc nL own Ts D cl tys n q A ret f (pc + 3) lv st) : Z p l e R s m args below meth c Q cells slots cc nL own Ts D cl tys n q A ret f pc lv (.int (iI a) :: st) := by
  intro C H locs ls hP hS hl
  obtain ⟨hx, hb, hml, hown, hts, hK, hq, hA, hN, hr, hlk, hNW⟩ := id C
  first
    | exact lv_if_lt hx hb hdg ht (fun h => kt ((iI_lt0 ha).mp h) C H locs ls hP hS hl) (fun h => kf (fun z => h ((iI_lt0 ha).mpr z)) C H locs ls hP hS hl)
    | exact lv_if_lt hx hb hdg ht (fun h => kt ((iI_lt0 ha).mp h) C H locs ls hP hS hl) (fun h => kf (fun z => h ((iI_lt0 ha).mpr z)) C H locs ls hP hS hl)
theorem z_if_ge {a : Int} {off : Int} {tgt : Nat} (hdg : decode cc pc = .ok (.ifCond .ge off, 3)) (ht : (pc : Int) + off = (tgt : Int)) (ha : -2147483648 ≤ a ∧ a < 2147483648) (kt : 0 ≤ a → Z p l e R s m args below meth c Q cells slots cc nL own Ts D cl tys n q A ret f tgt lv st) (kf : ¬ 0 ≤ a → Z p l e R s m args below meth c Q cells slots cc nL own Ts D cl tys n q A ret f (pc + 3) lv st) : Z p l e R s m args below meth c Q cells slots cc nL own Ts D cl tys n q A ret f pc lv (.int (iI a) :: st) := by
  intro C H locs ls hP hS hl
  obtain ⟨hx, hb, hml, hown, hts, hK, hq, hA, hN, hr, hlk, hNW⟩ := id C
  first
    | exact lv_if_ge hx hb hdg ht (fun h => kt ((iI_ge0 ha).mp h) C H locs ls hP hS hl) (fun h => kf (fun z => h ((iI_ge0 ha).mpr z)) C H locs ls hP hS hl)
    | exact lv_if_ge hx hb hdg ht (fun h => kt ((iI_ge0 ha).mp h) C H locs ls hP hS hl) (fun h => kf (fun z => h ((iI_ge0 ha).mpr z)) C H locs ls hP hS hl)
theorem z_if_gt {a : Int} {off : Int} {tgt : Nat} (hdg : decode cc pc = .ok (.ifCond .gt off, 3)) (ht : (pc : Int) + off = (tgt : Int)) (ha : -2147483648 ≤ a ∧ a < 2147483648) (kt : 0 < a → Z p l e R s m args below meth c Q cells slots cc nL own Ts D cl tys n q A ret f tgt lv st) (kf : ¬ 0 < a → Z p l e R s m args below meth c Q cells slots cc nL own Ts D cl tys n q A ret f (pc + 3) lv st) : Z p l e R s m args below meth c Q cells slots cc nL own Ts D cl tys n q A ret f pc lv (.int (iI a) :: st) := by
  intro C H locs ls hP hS hl
  obtain ⟨hx, hb, hml, hown, hts, hK, hq, hA, hN, hr, hlk, hNW⟩ := id C
  first
    | exact lv_if_gt hx hb hdg ht (fun h => kt ((iI_gt0 ha).mp h) C H locs ls hP hS hl) (fun h => kf (fun z => h ((iI_gt0 ha).mpr z)) C H locs ls hP hS hl)
    | exact lv_if_gt hx hb hdg ht (fun h => kt ((iI_gt0 ha).mp h) C H locs ls hP hS hl) (fun h => kf (fun z => h ((iI_gt0 ha).mpr z)) C H locs ls hP hS hl)
theorem z_if_le {a : Int} {off : Int} {tgt : Nat} (hdg : decode cc pc = .ok (.ifCond .le off, 3)) (ht : (pc : Int) + off = (tgt : Int)) (ha : -2147483648 ≤ a ∧ a < 2147483648) (kt : a ≤ 0 → Z p l e R s m args below meth c Q cells slots cc nL own Ts D cl tys n q A ret f tgt lv st) (kf : ¬ a ≤ 0 → Z p l e R s m args below meth c Q cells slots cc nL own Ts D cl tys n q A ret f (pc + 3) lv st) : Z p l e R s m args below meth c Q cells slots cc nL own Ts D cl tys n q A ret f pc lv (.int (iI a) :: st) := by
  intro C H locs ls hP hS hl
  obtain ⟨hx, hb, hml, hown, hts, hK, hq, hA, hN, hr, hlk, hNW⟩ := id C
  first
    | exact lv_if_le hx hb hdg ht (fun h => kt ((iI_le0 ha).mp h) C H locs ls hP hS hl) (fun h => kf (fun z => h ((iI_le0 ha).mpr z)) C H locs ls hP hS hl)
    | exact lv_if_le hx hb hdg ht (fun h => kt ((iI_le0 ha).mp h) C H locs ls hP hS hl) (fun h => kf (fun z => h ((iI_le0 ha).mpr z)) C H locs ls hP hS hl)
theorem z_icmp_eq {a b : Int} {off : Int} {tgt : Nat} (hdg : decode cc pc = .ok (.if_icmp .eq off, 3)) (ht : (pc : Int) + off = (tgt : Int)) (ha : -2147483648 ≤ a ∧ a < 2147483648) (hb2 : -2147483648 ≤ b ∧ b < 2147483648) (kt : a = b → Z p l e R s m args below meth c Q cells slots cc nL own Ts D cl tys n q A ret f tgt lv st) (kf : ¬ a = b → Z p l e R s m args below meth c Q cells slots cc nL own Ts D cl tys n q A ret f (pc + 3) lv st) : Z p l e R s m args below meth c Q cells slots cc nL own Ts D cl tys n q A ret f pc lv (.int (iI b) :: .int (iI a) :: st) := by
  intro C H locs ls hP hS hl
  obtain ⟨hx, hb, hml, hown, hts, hK, hq, hA, hN, hr, hlk, hNW⟩ := id C
  first
    | exact lv_icmp_eq hx hb hdg ht (fun h => kt ((iI_inj ha hb2).mp h) C H locs ls hP hS hl) (fun h => kf (fun z => h ((iI_inj ha hb2).mpr z)) C H locs ls hP hS hl)
    | exact lv_icmp_eq hx hb hdg ht (fun h => kt ((iI_inj ha hb2).mp h) C H locs ls hP hS hl) (fun h => kf (fun z => h ((iI_inj ha hb2).mpr z)) C H locs ls hP hS hl)
theorem z_icmp_ne {a b : Int} {off : Int} {tgt : Nat} (hdg : decode cc pc = .ok (.if_icmp .ne off, 3)) (ht : (pc : Int) + off = (tgt : Int)) (ha : -2147483648 ≤ a ∧ a < 2147483648) (hb2 : -2147483648 ≤ b ∧ b < 2147483648) (kt : ¬ a = b → Z p l e R s m args below meth c Q cells slots cc nL own Ts D cl tys n q A ret f tgt lv st) (kf : a = b → Z p l e R s m args below meth c Q cells slots cc nL own Ts D cl tys n q A ret f (pc + 3) lv st) : Z p l e R s m args below meth c Q cells slots cc nL own Ts D cl tys n q A ret f pc lv (.int (iI b) :: .int (iI a) :: st) := by
  intro C H locs ls hP hS hl
  obtain ⟨hx, hb, hml, hown, hts, hK, hq, hA, hN, hr, hlk, hNW⟩ := id C
  first
    | exact lv_icmp_ne hx hb hdg ht (fun h => kt (fun z => h ((iI_inj ha hb2).mpr z)) C H locs ls hP hS hl) (fun h => kf ((iI_inj ha hb2).mp (Classical.not_not.mp h)) C H locs ls hP hS hl)
    | exact lv_icmp_ne hx hb hdg ht (fun h => kt (fun z => h ((iI_inj ha hb2).mpr z)) C H locs ls hP hS hl) (fun h => kf ((iI_inj ha hb2).mp h) C H locs ls hP hS hl)
theorem z_icmp_lt {a b : Int} {off : Int} {tgt : Nat} (hdg : decode cc pc = .ok (.if_icmp .lt off, 3)) (ht : (pc : Int) + off = (tgt : Int)) (ha : -2147483648 ≤ a ∧ a < 2147483648) (hb2 : -2147483648 ≤ b ∧ b < 2147483648) (kt : a < b → Z p l e R s m args below meth c Q cells slots cc nL own Ts D cl tys n q A ret f tgt lv st) (kf : ¬ a < b → Z p l e R s m args below meth c Q cells slots cc nL own Ts D cl tys n q A ret f (pc + 3) lv st) : Z p l e R s m args below meth c Q cells slots cc nL own Ts D cl tys n q A ret f pc lv (.int (iI b) :: .int (iI a) :: st) := by
  intro C H locs ls hP hS hl
  obtain ⟨hx, hb, hml, hown, hts, hK, hq, hA, hN, hr, hlk, hNW⟩ := id C
  first
    | exact lv_icmp_lt hx hb hdg ht (fun h => kt ((iI_lt ha hb2).mp h) C H locs ls hP hS hl) (fun h => kf (fun z => h ((iI_lt ha hb2).mpr z)) C H locs ls hP hS hl)
    | exact lv_icmp_lt hx hb hdg ht (fun h => kt ((iI_lt ha hb2).mp h) C H locs ls hP hS hl) (fun h => kf (fun z => h ((iI_lt ha hb2).mpr z)) C H locs ls hP hS hl)
theorem z_icmp_ge {a b : Int} {off : Int} {tgt : Nat} (hdg : decode cc pc = .ok (.if_icmp .ge off, 3)) (ht : (pc : Int) + off = (tgt : Int)) (ha : -2147483648 ≤ a ∧ a < 2147483648) (hb2 : -2147483648 ≤ b ∧ b < 2147483648) (kt : b ≤ a → Z p l e R s m args below meth c Q cells slots cc nL own Ts D cl tys n q A ret f tgt lv st) (kf : ¬ b ≤ a → Z p l e R s m args below meth c Q cells slots cc nL own Ts D cl tys n q A ret f (pc + 3) lv st) : Z p l e R s m args below meth c Q cells slots cc nL own Ts D cl tys n q A ret f pc lv (.int (iI b) :: .int (iI a) :: st) := by
  intro C H locs ls hP hS hl
  obtain ⟨hx, hb, hml, hown, hts, hK, hq, hA, hN, hr, hlk, hNW⟩ := id C
  first
    | exact lv_icmp_ge hx hb hdg ht (fun h => kt ((iI_le hb2 ha).mp h) C H locs ls hP hS hl) (fun h => kf (fun z => h ((iI_le hb2 ha).mpr z)) C H locs ls hP hS hl)
    | exact lv_icmp_ge hx hb hdg ht (fun h => kt ((iI_le hb2 ha).mp h) C H locs ls hP hS hl) (fun h => kf (fun z => h ((iI_le hb2 ha).mpr z)) C H locs ls hP hS hl)
theorem z_icmp_gt {a b : Int} {off : Int} {tgt : Nat} (hdg : decode cc pc = .ok (.if_icmp .gt off, 3)) (ht : (pc : Int) + off = (tgt : Int)) (ha : -2147483648 ≤ a ∧ a < 2147483648) (hb2 : -2147483648 ≤ b ∧ b < 2147483648) (kt : b < a → Z p l e R s m args below meth c Q cells slots cc nL own Ts D cl tys n q A ret f tgt lv st) (kf : ¬ b < a → Z p l e R s m args below meth c Q cells slots cc nL own Ts D cl tys n q A ret f (pc + 3) lv st) : Z p l e R s m args below meth c Q cells slots cc nL own Ts D cl tys n q A ret f pc lv (.int (iI b) :: .int (iI a) :: st) := by
  intro C H locs ls hP hS hl
  obtain ⟨hx, hb, hml, hown, hts, hK, hq, hA, hN, hr, hlk, hNW⟩ := id C
  first
    | exact lv_icmp_gt hx hb hdg ht (fun h => kt ((iI_lt hb2 ha).mp h) C H locs ls hP hS hl) (fun h => kf (fun z => h ((iI_lt hb2 ha).mpr z)) C H locs ls hP hS hl)
    | exact lv_icmp_gt hx hb hdg ht (fun h => kt ((iI_lt hb2 ha).mp h) C H locs ls hP hS hl) (fun h => kf (fun z => h ((iI_lt hb2 ha).mpr z)) C H locs ls hP hS hl)
theorem z_icmp_le {a b : Int} {off : Int} {tgt : Nat} (hdg : decode cc pc = .ok (.if_icmp .le off, 3)) (ht : (pc : Int) + off = (tgt : Int)) (ha : -2147483648 ≤ a ∧ a < 2147483648) (hb2 : -2147483648 ≤ b ∧ b < 2147483648) (kt : a ≤ b → Z p l e R s m args below meth c Q cells slots cc nL own Ts D cl tys n q A ret f tgt lv st) (kf : ¬ a ≤ b → Z p l e R s m args below meth c Q cells slots cc nL own Ts D cl tys n q A ret f (pc + 3) lv st) : Z p l e R s m args below meth c Q cells slots cc nL own Ts D cl tys n q A ret f pc lv (.int (iI b) :: .int (iI a) :: st) := by
  intro C H locs ls hP hS hl
  obtain ⟨hx, hb, hml, hown, hts, hK, hq, hA, hN, hr, hlk, hNW⟩ := id C
  first
    | exact lv_icmp_le hx hb hdg ht (fun h => kt ((iI_le ha hb2).mp h) C H locs ls hP hS hl) (fun h => kf (fun z => h ((iI_le ha hb2).mpr z)) C H locs ls hP hS hl)
    | exact lv_icmp_le hx hb hdg ht (fun h => kt ((iI_le ha hb2).mp h) C H locs ls hP hS hl) (fun h => kf (fun z => h ((iI_le ha hb2).mpr z)) C H locs ls hP hS hl)
theorem z_ifnull {x : Nat} {off : Int} (hdg : decode cc pc = .ok (.ifnull off, 3)) (kk : Z p l e R s m args below meth c Q cells slots cc nL own Ts D cl tys n q A ret f (pc + 3) lv (st)) : Z p l e R s m args below meth c Q cells slots cc nL own Ts D cl tys n q A ret f pc lv (.ref x :: st) := by
  intro C H locs ls hP hS hl
  obtain ⟨hx, hb, hml, hown, hts, hK, hq, hA, hN, hr, hlk, hNW⟩ := id C
  exact lv_ifnull hx hb hdg (kk C H locs ls hP hS hl)
theorem z_ifnullN {off : Int} {tgt : Nat} (hdg : decode cc pc = .ok (.ifnull off, 3)) (ht : (pc : Int) + off = (tgt : Int)) (kk : Z p l e R s m args below meth c Q cells slots cc nL own Ts D cl tys n q A ret f (tgt) lv (st)) : Z p l e R s m args below meth c Q cells slots cc nL own Ts D cl tys n q A ret f pc lv (.null :: st) := by
  intro C H locs ls hP hS hl
  obtain ⟨hx, hb, hml, hown, hts, hK, hq, hA, hN, hr, hlk, hNW⟩ := id C
  exact lv_ifnullN hx hb hdg ht (kk C H locs ls hP hS hl)
theorem z_ifnonnull {x : Nat} {off : Int} {tgt : Nat} (hdg : decode cc pc = .ok (.ifnonnull off, 3)) (ht : (pc : Int) + off = (tgt : Int)) (kk : Z p l e R s m args below meth c Q cells slots cc nL own Ts D cl tys n q A ret f (tgt) lv (st)) : Z p l e R s m args below meth c Q cells slots cc nL own Ts D cl tys n q A ret f pc lv (.ref x :: st) := by
  intro C H locs ls hP hS hl
  obtain ⟨hx, hb, hml, hown, hts, hK, hq, hA, hN, hr, hlk, hNW⟩ := id C
  exact lv_ifnonnull hx hb hdg ht (kk C H locs ls hP hS hl)
theorem z_ifnonnullN {off : Int} (hdg : decode cc pc = .ok (.ifnonnull off, 3)) (kk : Z p l e R s m args below meth c Q cells slots cc nL own Ts D cl tys n q A ret f (pc + 3) lv (st)) : Z p l e R s m args below meth c Q cells slots cc nL own Ts D cl tys n q A ret f pc lv (.null :: st) := by
  intro C H locs ls hP hS hl
  obtain ⟨hx, hb, hml, hown, hts, hK, hq, hA, hN, hr, hlk, hNW⟩ := id C
  exact lv_ifnonnullN hx hb hdg (kk C H locs ls hP hS hl)
theorem z_tsw {dflt lo hi : Int} {offs : Array Int} {len : Nat} {a kv off : Int} {tgt : Nat} (hdg : decode cc pc = .ok (.tableswitch dflt lo hi offs, len)) (ha : -2147483648 ≤ a ∧ a < 2147483648) (hk : a = kv) (h1 : lo ≤ kv) (h2 : kv ≤ hi) (ho : offs[(kv - lo).toNat]? = some off) (ht : (pc : Int) + off = (tgt : Int)) (kk : Z p l e R s m args below meth c Q cells slots cc nL own Ts D cl tys n q A ret f (tgt) lv (st)) : Z p l e R s m args below meth c Q cells slots cc nL own Ts D cl tys n q A ret f pc lv (.int (iI a) :: st) := by
  intro C H locs ls hP hS hl
  obtain ⟨hx, hb, hml, hown, hts, hK, hq, hA, hN, hr, hlk, hNW⟩ := id C
  subst hk
  exact lv_tableIn hx hb hdg (by rw [iI_toInt ha]; omega) (by rw [iI_toInt ha]; omega) (by rw [iI_toInt ha]; exact ho) ht (kk C H locs ls hP hS hl)
theorem z_tswD {dflt lo hi : Int} {offs : Array Int} {len : Nat} {a : Int} {tgt : Nat} (hdg : decode cc pc = .ok (.tableswitch dflt lo hi offs, len)) (ha : -2147483648 ≤ a ∧ a < 2147483648) (h : a < lo ∨ hi < a) (ht : (pc : Int) + dflt = (tgt : Int)) (kk : Z p l e R s m args below meth c Q cells slots cc nL own Ts D cl tys n q A ret f (tgt) lv (st)) : Z p l e R s m args below meth c Q cells slots cc nL own Ts D cl tys n q A ret f pc lv (.int (iI a) :: st) := by
  intro C H locs ls hP hS hl
  obtain ⟨hx, hb, hml, hown, hts, hK, hq, hA, hN, hr, hlk, hNW⟩ := id C
  exact lv_tableOut hx hb hdg (by rw [iI_toInt ha]; exact h) ht (kk C H locs ls hP hS hl)
theorem z_lsw {dflt : Int} {ps : Array (Int × Int)} {len : Nat} {a off : Int} {tgt : Nat} (hdg : decode cc pc = .ok (.lookupswitch dflt ps, len)) (ha : -2147483648 ≤ a ∧ a < 2147483648) (hp : (ps.toList.zip (ps.toList.drop 1)).all (fun (a, next) => a.1 < next.1) = true) (ho : Op.lookupswitch.offset ps.toList dflt a = off) (ht : (pc : Int) + off = (tgt : Int)) (kk : Z p l e R s m args below meth c Q cells slots cc nL own Ts D cl tys n q A ret f (tgt) lv (st)) : Z p l e R s m args below meth c Q cells slots cc nL own Ts D cl tys n q A ret f pc lv (.int (iI a) :: st) := by
  intro C H locs ls hP hS hl
  obtain ⟨hx, hb, hml, hown, hts, hK, hq, hA, hN, hr, hlk, hNW⟩ := id C
  exact lv_lookup hx hb hdg hp (by rw [iI_toInt ha]; exact ho) ht (kk C H locs ls hP hS hl)
theorem z_topi {x : Int32} (y : Int32) (h : x = y) (kk : Z p l e R s m args below meth c Q cells slots cc nL own Ts D cl tys n q A ret f pc lv (.int y :: st)) : Z p l e R s m args below meth c Q cells slots cc nL own Ts D cl tys n q A ret f pc lv (.int x :: st) := h ▸ kk
theorem z_topl {x : Int64} (y : Int64) (h : x = y) (kk : Z p l e R s m args below meth c Q cells slots cc nL own Ts D cl tys n q A ret f pc lv (.long y :: st)) : Z p l e R s m args below meth c Q cells slots cc nL own Ts D cl tys n q A ret f pc lv (.long x :: st) := h ▸ kk
theorem z_mem {g : Nat → va_E} (h : f = g) (kk : Z p l e R s m args below meth c Q cells slots cc nL own Ts D cl tys n q A ret g pc lv st) : Z p l e R s m args below meth c Q cells slots cc nL own Ts D cl tys n q A ret f pc lv st := h ▸ kk
theorem z_getf {nm ds Cn : String} {fin : Bool} {T : u_T} {N ci index k i : Nat} {fs : List Value} {v : Value} (hdg : decode cc pc = .ok (.getfield index, 3)) (hm : Cond.fieldLink own index Cn nm ds ∈ Ts) (hin : ∀ w ∈ u_ws Cn T N, w ∈ Ts) (hc : cl[ci]? = some (Cn, T, N)) (hk : k < N) (hT : T k = (Cn, nm, ds, fin)) (hi : i < n) (hf : f i = .inr (ci, fs)) (hv : fs[k]? = some v) (kk : Z p l e R s m args below meth c Q cells slots cc nL own Ts D cl tys n q A ret f (pc + 3) lv (v :: st)) : Z p l e R s m args below meth c Q cells slots cc nL own Ts D cl tys n q A ret f pc lv (.ref (q i) :: st) := by
  intro C H locs ls hP hS hl
  obtain ⟨hx, hb, hml, hown, hts, hK, hq, hA, hN, hr, hlk, hNW⟩ := id C
  exact va_get hx hb hts hin hown hK hP i (idW_at hi hf) hc k hk (ref := Cn) (by rw [hT]; exact hts _ hm) (by rw [hT]; exact fun _ h => h) hv hdg (kk C H locs ls hP hS hl)
theorem z_putf {nm ds Cn : String} {T : u_T} {N ci index k i : Nat} {fs : List Value} {v : Value} {ty : FieldType} {ty0 : Nat → FieldType} (g : Nat → va_E) (hdg : decode cc pc = .ok (.putfield index, 3)) (hm : Cond.fieldLink own index Cn nm ds ∈ Ts) (hin : ∀ w ∈ u_ws Cn T N, w ∈ Ts) (hc : cl[ci]? = some (Cn, T, N)) (hk : k < N) (hT : T k = (Cn, nm, ds, false)) (hi : i < n) (hf : f i = .inr (ci, fs)) (hty : ∀ k, k < N → parseFieldDescriptor (T k).2.2.1 = some (ty0 k)) (hnm : ∀ a, a < N → ∀ b, b < N → a ≠ b → (T a).2.1 ≠ (T b).2.1) (hd : ty0 k = ty) (hn : narrow ty v = v) (hfit : fits ty v = true) (hlen : k < fs.length) (hg : va_up f i (.inr (ci, fs.set k v)) = g) (kk : Z p l e R s m args below meth c Q cells slots cc nL own Ts D cl tys n q A ret g (pc + 3) lv (st)) : Z p l e R s m args below meth c Q cells slots cc nL own Ts D cl tys n q A ret f pc lv (v :: .ref (q i) :: st) := by
  intro C H locs ls hP hS hl
  obtain ⟨hx, hb, hml, hown, hts, hK, hq, hA, hN, hr, hlk, hNW⟩ := id C
  subst hg
  exact va_put hx hb hts hin ty0 hty hnm hown hK hP (idW_D hq hA) hS i (idW_at hi hf) hc k hk (ref := Cn) (by rw [hT]; exact hts _ hm) (by rw [hT]; exact fun _ h => h) (by rw [hT]) (ty := ty) (by rw [hty k hk, hd]) hn hfit hlen hdg (fun H1 locs1 hP1 _ hS1 => kk C H1 locs1 ls (by rw [← idW_set hi]; exact hP1) hS1 hl)
theorem z_getfN {nm ds Cn host : String} {fin : Bool} {T : u_T} {N ci index k i : Nat} {fs : List Value} {v : Value} (hdg : decode cc pc = .ok (.getfield index, 3)) (hm : Cond.fieldLinkNest own index Cn nm ds host ∈ NWl) (hin : ∀ w ∈ u_ws Cn T N, w ∈ Ts) (hc : cl[ci]? = some (Cn, T, N)) (hk : k < N) (hT : T k = (Cn, nm, ds, fin)) (hi : i < n) (hf : f i = .inr (ci, fs)) (hv : fs[k]? = some v) (kk : Z p l e R s m args below meth c Q cells slots cc nL own Ts D cl tys n q A ret f (pc + 3) lv (v :: st)) : Z p l e R s m args below meth c Q cells slots cc nL own Ts D cl tys n q A ret f pc lv (.ref (q i) :: st) := by
  intro C H locs ls hP hS hl
  obtain ⟨hx, hb, hml, hown, hts, hK, hq, hA, hN, hr, hlk, hNW⟩ := id C
  exact va_getN (host := host) hx hb hts hin hown hK hP i (idW_at hi hf) hc k hk (ref := Cn) (by rw [hT]; exact va_Nw.use rfl (hNW _ hm)) (by rw [hT]; exact fun _ h => h) hv hdg (kk C H locs ls hP hS hl)
theorem z_putfN {nm ds Cn host : String} {T : u_T} {N ci index k i : Nat} {fs : List Value} {v : Value} {ty : FieldType} {ty0 : Nat → FieldType} (g : Nat → va_E) (hdg : decode cc pc = .ok (.putfield index, 3)) (hm : Cond.fieldLinkNest own index Cn nm ds host ∈ NWl) (hin : ∀ w ∈ u_ws Cn T N, w ∈ Ts) (hc : cl[ci]? = some (Cn, T, N)) (hk : k < N) (hT : T k = (Cn, nm, ds, false)) (hi : i < n) (hf : f i = .inr (ci, fs)) (hty : ∀ k, k < N → parseFieldDescriptor (T k).2.2.1 = some (ty0 k)) (hnm : ∀ a, a < N → ∀ b, b < N → a ≠ b → (T a).2.1 ≠ (T b).2.1) (hd : ty0 k = ty) (hn : narrow ty v = v) (hfit : fits ty v = true) (hlen : k < fs.length) (hg : va_up f i (.inr (ci, fs.set k v)) = g) (kk : Z p l e R s m args below meth c Q cells slots cc nL own Ts D cl tys n q A ret g (pc + 3) lv (st)) : Z p l e R s m args below meth c Q cells slots cc nL own Ts D cl tys n q A ret f pc lv (v :: .ref (q i) :: st) := by
  intro C H locs ls hP hS hl
  obtain ⟨hx, hb, hml, hown, hts, hK, hq, hA, hN, hr, hlk, hNW⟩ := id C
  subst hg
  exact va_putN (host := host) hx hb hts hin ty0 hty hnm hown hK hP (idW_D hq hA) hS i (idW_at hi hf) hc k hk (ref := Cn) (by rw [hT]; exact va_Nw.use rfl (hNW _ hm)) (by rw [hT]; exact fun _ h => h) (by rw [hT]) (ty := ty) (by rw [hty k hk, hd]) hn hfit hlen hdg (fun H1 locs1 hP1 _ hS1 => kk C H1 locs1 ls (by rw [← idW_set hi]; exact hP1) hS1 hl)
theorem z_iald {i : Nat} {cA : ClassId} {len : Nat} {g : Nat → Int} {a : Int} (t0 : Nat) (hdg : decode cc pc = .ok (.iaload, 1)) (hi : i < n) (hf : f i = .inl (cA, len, .inl (fun k => iI (g k)))) (ht : tys[t0]? = some (cA, .int)) (ha : -2147483648 ≤ a ∧ a < 2147483648) (h0 : 0 ≤ a) (h1 : a < len) (kk : Z p l e R s m args below meth c Q cells slots cc nL own Ts D cl tys n q A ret f (pc + 1) lv (.int (iI (g a.toNat)) :: st)) : Z p l e R s m args below meth c Q cells slots cc nL own Ts D cl tys n q A ret f pc lv (.int (iI a) :: .ref (q i) :: st) := by
  intro C H locs ls hP hS hl
  obtain ⟨hx, hb, hml, hown, hts, hK, hq, hA, hN, hr, hlk, hNW⟩ := id C
  exact va_iald hx hb hK hP i t0 (idW_at hi hf) ht (iI_in ha h0 h1) hdg (by rw [iI_nat ha]; exact kk C H locs ls hP hS hl)
theorem z_zald {i : Nat} {cA : ClassId} {len : Nat} {g : Nat → Int} {a : Int} (t0 : Nat) (hdg : decode cc pc = .ok (.baload, 1)) (hi : i < n) (hf : f i = .inl (cA, len, .inl (fun k => iI (g k)))) (ht : tys[t0]? = some (cA, .boolean)) (ha : -2147483648 ≤ a ∧ a < 2147483648) (h0 : 0 ≤ a) (h1 : a < len) (kk : Z p l e R s m args below meth c Q cells slots cc nL own Ts D cl tys n q A ret f (pc + 1) lv (.int (iI (g a.toNat)) :: st)) : Z p l e R s m args below meth c Q cells slots cc nL own Ts D cl tys n q A ret f pc lv (.int (iI a) :: .ref (q i) :: st) := by
  intro C H locs ls hP hS hl
  obtain ⟨hx, hb, hml, hown, hts, hK, hq, hA, hN, hr, hlk, hNW⟩ := id C
  exact va_zald hx hb hK hP i t0 (idW_at hi hf) ht (iI_in ha h0 h1) hdg (by rw [iI_nat ha]; exact kk C H locs ls hP hS hl)
theorem z_lald {i : Nat} {cA : ClassId} {len : Nat} {g : Nat → Int} {a : Int} (t0 : Nat) (hdg : decode cc pc = .ok (.laload, 1)) (hi : i < n) (hf : f i = .inl (cA, len, .inr (.inl (fun k => lI (g k))))) (ht : tys[t0]? = some (cA, .long)) (ha : -2147483648 ≤ a ∧ a < 2147483648) (h0 : 0 ≤ a) (h1 : a < len) (kk : Z p l e R s m args below meth c Q cells slots cc nL own Ts D cl tys n q A ret f (pc + 1) lv (.long (lI (g a.toNat)) :: st)) : Z p l e R s m args below meth c Q cells slots cc nL own Ts D cl tys n q A ret f pc lv (.int (iI a) :: .ref (q i) :: st) := by
  intro C H locs ls hP hS hl
  obtain ⟨hx, hb, hml, hown, hts, hK, hq, hA, hN, hr, hlk, hNW⟩ := id C
  exact va_lald hx hb hK hP i t0 (idW_at hi hf) ht (iI_in ha h0 h1) hdg (by rw [iI_nat ha]; exact kk C H locs ls hP hS hl)
theorem z_aald {i : Nat} {cA : ClassId} {Cn : String} {len : Nat} {g : Nat → Option Nat} {a : Int} {v : Nat} (t0 : Nat) (hdg : decode cc pc = .ok (.aaload, 1)) (hi : i < n) (hf : f i = .inl (cA, len, .inr (.inr (.inr (.inr g))))) (ht : tys[t0]? = some (cA, .object Cn)) (ha : -2147483648 ≤ a ∧ a < 2147483648) (h0 : 0 ≤ a) (h1 : a < len) (hv : g a.toNat = some v) (kk : Z p l e R s m args below meth c Q cells slots cc nL own Ts D cl tys n q A ret f (pc + 1) lv (.ref v :: st)) : Z p l e R s m args below meth c Q cells slots cc nL own Ts D cl tys n q A ret f pc lv (.int (iI a) :: .ref (q i) :: st) := by
  intro C H locs ls hP hS hl
  obtain ⟨hx, hb, hml, hown, hts, hK, hq, hA, hN, hr, hlk, hNW⟩ := id C
  exact va_aldq hx hb hK hP i t0 (idW_at hi hf) ht (iI_in ha h0 h1) hdg (by rw [iI_nat ha, hv]; exact kk C H locs ls hP hS hl)
theorem z_iast {i : Nat} {cA : ClassId} {len : Nat} {g : Nat → Int} {a z : Int} (t0 : Nat) (g2 : Nat → va_E) (hdg : decode cc pc = .ok (.iastore, 1)) (hi : i < n) (hf : f i = .inl (cA, len, .inl (fun k => iI (g k)))) (ht : tys[t0]? = some (cA, .int)) (ha : -2147483648 ≤ a ∧ a < 2147483648) (h0 : 0 ≤ a) (h1 : a < len) (hg : va_up f i (.inl (cA, len, .inl (fun k => iI (va_up g a.toNat z k)))) = g2) (kk : Z p l e R s m args below meth c Q cells slots cc nL own Ts D cl tys n q A ret g2 (pc + 1) lv (st)) : Z p l e R s m args below meth c Q cells slots cc nL own Ts D cl tys n q A ret f pc lv (.int (iI z) :: .int (iI a) :: .ref (q i) :: st) := by
  intro C H locs ls hP hS hl
  obtain ⟨hx, hb, hml, hown, hts, hK, hq, hA, hN, hr, hlk, hNW⟩ := id C
  subst hg
  exact va_iast hx hb hK hP (idW_D hq hA) hS i t0 (idW_at hi hf) ht (iI_in ha h0 h1) hdg (fun H1 locs1 hP1 _ hS1 => kk C H1 locs1 ls (by rw [← idW_set hi, ← upd_iI, ← iI_nat ha]; exact hP1) hS1 hl)
theorem z_zast {i : Nat} {cA : ClassId} {len : Nat} {g : Nat → Int} {a z : Int} (t0 : Nat) (g2 : Nat → va_E) (hdg : decode cc pc = .ok (.bastore, 1)) (hi : i < n) (hf : f i = .inl (cA, len, .inl (fun k => iI (g k)))) (ht : tys[t0]? = some (cA, .boolean)) (ha : -2147483648 ≤ a ∧ a < 2147483648) (h0 : 0 ≤ a) (h1 : a < len) (hz : z = 0 ∨ z = 1) (hg : va_up f i (.inl (cA, len, .inl (fun k => iI (va_up g a.toNat z k)))) = g2) (kk : Z p l e R s m args below meth c Q cells slots cc nL own Ts D cl tys n q A ret g2 (pc + 1) lv (st)) : Z p l e R s m args below meth c Q cells slots cc nL own Ts D cl tys n q A ret f pc lv (.int (iI z) :: .int (iI a) :: .ref (q i) :: st) := by
  intro C H locs ls hP hS hl
  obtain ⟨hx, hb, hml, hown, hts, hK, hq, hA, hN, hr, hlk, hNW⟩ := id C
  subst hg
  exact va_zast hx hb hK hP (idW_D hq hA) hS i t0 (idW_at hi hf) ht (iI_in ha h0 h1) hdg (fun H1 locs1 hP1 _ hS1 => kk C H1 locs1 ls (by rw [← idW_set hi, ← upd_iI, ← iI_nat ha, ← nar_bz hz]; exact hP1) hS1 hl)
theorem z_last {i : Nat} {cA : ClassId} {len : Nat} {g : Nat → Int} {a z : Int} (t0 : Nat) (g2 : Nat → va_E) (hdg : decode cc pc = .ok (.lastore, 1)) (hi : i < n) (hf : f i = .inl (cA, len, .inr (.inl (fun k => lI (g k))))) (ht : tys[t0]? = some (cA, .long)) (ha : -2147483648 ≤ a ∧ a < 2147483648) (h0 : 0 ≤ a) (h1 : a < len) (hg : va_up f i (.inl (cA, len, .inr (.inl (fun k => lI (va_up g a.toNat z k))))) = g2) (kk : Z p l e R s m args below meth c Q cells slots cc nL own Ts D cl tys n q A ret g2 (pc + 1) lv (st)) : Z p l e R s m args below meth c Q cells slots cc nL own Ts D cl tys n q A ret f pc lv (.long (lI z) :: .int (iI a) :: .ref (q i) :: st) := by
  intro C H locs ls hP hS hl
  obtain ⟨hx, hb, hml, hown, hts, hK, hq, hA, hN, hr, hlk, hNW⟩ := id C
  subst hg
  exact va_last hx hb hK hP (idW_D hq hA) hS i t0 (idW_at hi hf) ht (iI_in ha h0 h1) hdg (fun H1 locs1 hP1 _ hS1 => kk C H1 locs1 ls (by rw [← idW_set hi, ← updL_lI, ← iI_nat ha]; exact hP1) hS1 hl)
theorem z_alen {i : Nat} {cA : ClassId} {x : vp_A} {ty : FieldType} (t0 : Nat) (hdg : decode cc pc = .ok (.arraylength, 1)) (hi : i < n) (hf : f i = .inl (cA, x)) (ht : tys[t0]? = some (cA, ty)) (kk : Z p l e R s m args below meth c Q cells slots cc nL own Ts D cl tys n q A ret f (pc + 1) lv (.int (iI (x.1 : Nat)) :: st)) : Z p l e R s m args below meth c Q cells slots cc nL own Ts D cl tys n q A ret f pc lv (.ref (q i) :: st) := by
  intro C H locs ls hP hS hl
  obtain ⟨hx, hb, hml, hown, hts, hK, hq, hA, hN, hr, hlk, hNW⟩ := id C
  exact va_alen (v := iI (x.1 : Nat)) hx hb hK hP i t0 (idW_at hi hf) ht (by rw [← iI_nI]; rfl) hdg (kk C H locs ls hP hS hl)
theorem iI_max {a b : Int} (ha : -2147483648 ≤ a ∧ a < 2147483648) (hb : -2147483648 ≤ b ∧ b < 2147483648) : (if iI a < iI b then iI b else iI a) = iI (max a b) := by
  by_cases h : a < b
  · rw [if_pos ((iI_lt ha hb).mpr h), show max a b = b by omega]
  · rw [if_neg (fun z => h ((iI_lt ha hb).mp z)), show max a b = a by omega]
theorem iI_min {a b : Int} (ha : -2147483648 ≤ a ∧ a < 2147483648) (hb : -2147483648 ≤ b ∧ b < 2147483648) : (if iI b < iI a then iI b else iI a) = iI (min a b) := by
  by_cases h : b < a
  · rw [if_pos ((iI_lt hb ha).mpr h), show min a b = b by omega]
  · rw [if_neg (fun z => h ((iI_lt hb ha).mp z)), show min a b = a by omega]
theorem iI_min2 {a b : Int} (ha : -2147483648 ≤ a ∧ a < 2147483648) (hb : -2147483648 ≤ b ∧ b < 2147483648) : (if iI a < iI b then iI a else iI b) = iI (min a b) := by
  by_cases h : a < b
  · rw [if_pos ((iI_lt ha hb).mpr h), show min a b = a by omega]
  · rw [if_neg (fun z => h ((iI_lt ha hb).mp z)), show min a b = b by omega]
theorem lI_max {a b : Int} (ha : -9223372036854775808 ≤ a ∧ a < 9223372036854775808) (hb : -9223372036854775808 ≤ b ∧ b < 9223372036854775808) : (if lI b < lI a then lI a else lI b) = lI (max a b) := by
  by_cases h : b < a
  · rw [if_pos ((lI_lt hb ha).mpr h), show max a b = a by omega]
  · rw [if_neg (fun z => h ((lI_lt hb ha).mp z)), show max a b = b by omega]
theorem z_mmax {a b : Int} {index : Nat} (hdg : decode cc pc = .ok (.invokestatic index, 3)) (h1 : Cond.methodLink own index Lib.Math.max.name ∈ Ts) (h2 : Cond.static Lib.Math.max.name ∈ Ts) (h3 : Cond.initialized "java/lang/Math" ∈ Ts) (h4 : Cond.code Lib.Math.max.name Lib.Math.max.code 2 (some .int) ∈ Ts) (hfr : 1 ≤ R.frames) (hlo : (st.map fun v => v.category).sum + 13 ≤ R.locals) (hcs : cells ≤ R.cells ∧ slots ≤ R.slots) (ha : -2147483648 ≤ a ∧ a < 2147483648) (hb2 : -2147483648 ≤ b ∧ b < 2147483648) (kk : Z p l e R s m args below meth c Q cells slots cc nL own Ts D cl tys n q A ret f (pc + 3) lv (.int (iI (max a b)) :: st)) : Z p l e R s m args below meth c Q cells slots cc nL own Ts D cl tys n q A ret f pc lv (.int (iI b) :: .int (iI a) :: st) := by
  intro C H locs ls hP hS hl
  obtain ⟨hx, hb, hml, hown, hts, hK, hq, hA, hN, hr, hlk, hNW⟩ := id C
  first
    | exact va_mmax hx hb (hml.trans hl.1.symm) hown (hts _ h1) (hts _ h2) (hts _ h3) (hts _ h4) hfr hlo hcs.1 hcs.2 hdg (by rw [iI_max ha hb2]; exact kk C H locs ls hP hS hl)
    | exact va_mmax hx hb (hml.trans hl.1.symm) hown (hts _ h1) (hts _ h2) (hts _ h3) (hts _ h4) hfr hlo hcs.1 hcs.2 hdg (by rw [iI_max2 ha hb2]; exact kk C H locs ls hP hS hl)
theorem z_mmin {a b : Int} {index : Nat} (hdg : decode cc pc = .ok (.invokestatic index, 3)) (h1 : Cond.methodLink own index Lib.Math.min.name ∈ Ts) (h2 : Cond.static Lib.Math.min.name ∈ Ts) (h3 : Cond.initialized "java/lang/Math" ∈ Ts) (h4 : Cond.code Lib.Math.min.name Lib.Math.min.code 2 (some .int) ∈ Ts) (hfr : 1 ≤ R.frames) (hlo : (st.map fun v => v.category).sum + 13 ≤ R.locals) (hcs : cells ≤ R.cells ∧ slots ≤ R.slots) (ha : -2147483648 ≤ a ∧ a < 2147483648) (hb2 : -2147483648 ≤ b ∧ b < 2147483648) (kk : Z p l e R s m args below meth c Q cells slots cc nL own Ts D cl tys n q A ret f (pc + 3) lv (.int (iI (min a b)) :: st)) : Z p l e R s m args below meth c Q cells slots cc nL own Ts D cl tys n q A ret f pc lv (.int (iI b) :: .int (iI a) :: st) := by
  intro C H locs ls hP hS hl
  obtain ⟨hx, hb, hml, hown, hts, hK, hq, hA, hN, hr, hlk, hNW⟩ := id C
  first
    | exact va_mmin hx hb (hml.trans hl.1.symm) hown (hts _ h1) (hts _ h2) (hts _ h3) (hts _ h4) hfr hlo hcs.1 hcs.2 hdg (by rw [iI_min ha hb2]; exact kk C H locs ls hP hS hl)
    | exact va_mmin hx hb (hml.trans hl.1.symm) hown (hts _ h1) (hts _ h2) (hts _ h3) (hts _ h4) hfr hlo hcs.1 hcs.2 hdg (by rw [iI_min2 ha hb2]; exact kk C H locs ls hP hS hl)
theorem z_mmaxl {a b : Int} {index : Nat} (hdg : decode cc pc = .ok (.invokestatic index, 3)) (h1 : Cond.methodLink own index Lib.MathLoose.max_long.x ∈ Ts) (h2 : Cond.static Lib.MathLoose.max_long.x ∈ Ts) (h3 : Cond.initialized "java/lang/Math" ∈ Ts) (h4 : Cond.code Lib.MathLoose.max_long.x Lib.MathLoose.max_long.code 4 (some .long) ∈ Ts) (hfr : 1 ≤ R.frames) (hlo : (st.map fun v => v.category).sum + 15 ≤ R.locals) (hcs : cells ≤ R.cells ∧ slots ≤ R.slots) (ha : -9223372036854775808 ≤ a ∧ a < 9223372036854775808) (hb2 : -9223372036854775808 ≤ b ∧ b < 9223372036854775808) (kk : Z p l e R s m args below meth c Q cells slots cc nL own Ts D cl tys n q A ret f (pc + 3) lv (.long (lI (max a b)) :: st)) : Z p l e R s m args below meth c Q cells slots cc nL own Ts D cl tys n q A ret f pc lv (.long (lI b) :: .long (lI a) :: st) := by
  intro C H locs ls hP hS hl
  obtain ⟨hx, hb, hml, hown, hts, hK, hq, hA, hN, hr, hlk, hNW⟩ := id C
  exact va_mmax_long hx hb (hml.trans hl.1.symm) hown (hts _ h1) (hts _ h2) (hts _ h3) (hts _ h4) hfr hlo hcs.1 hcs.2 hdg (by rw [lI_max ha hb2]; exact kk C H locs ls hP hS hl)
end ZL
section ZK
variable {p : Program} {l : Launch} {e : Env} {R : Room} {s : State} {m : MethodId} {args : Array Value} {below : List Frame} {meth : Method} {c : Code} {Q : State → Prop} {cells slots : Nat} {cc : ByteArray} {nL : Nat} {own : String} {Ts : List Cond} {D : va_G} {cl : List vw_C} {tys : List (ClassId × FieldType)} {n : Nat} {q : Nat → Nat} {A : Nat → Prop} {ret : Option FieldType}
variable {f : Nat → va_E} {pc : Nat} {lv : List (Nat × Value)} {st : List Value}
def Cti (l : Launch) (D : va_G) (cl : List vw_C) (tys : List (ClassId × FieldType)) (n : Nat) (q : Nat → Nat) (y : MethodName) (ws : List Cond) (rm : Room) (as : List Value) (f : Nat → va_E) (post : Int32 → (Nat → va_E) → Prop) : Prop :=
  ∀ sz : Nat, Met l y ws rm (va_Pc as (fun U => U.heap.size = sz ∧ va_P D cl (idW n q f) U.heap ∧ va_K D cl tys U ∧ NWs U)) (va_Qi post (fun f' t => va_P D cl (idW n q f') t.heap) (AQ n q sz)) 0 0 (AQ n q sz)
theorem Cti.of {y : MethodName} {ws ws' : List Cond} {rm : Room} {as : List Value} {post : Int32 → (Nat → va_E) → Prop} (hy : plainName y.cls = true) (ho : y.cls = own) (hw : ws = Cond.code y cc nL ret :: ws') (hq : qOk n q) (hlen : (lg_sl as).length ≤ nL) (body : ∀ (p : Program) (e : Env) (s : State) (m : MethodId) (args : Array Value) (below : List Frame) (meth : Method) (c : Code), Z p l e rm s m args below meth c (MQ below (va_Qi post (fun f' t => va_P D cl (idW n q f') t.heap) (AQ n q s.heap.size)) args s 0 0 (AQ n q s.heap.size)) 0 0 cc nL own ws D cl tys n q (AQ n q s.heap.size) ret f 0 (lv_args 0 as) []) : Cti l D cl tys n q y ws rm as f post := by
  intro sz
  refine Met.ofW (cc := cc) (maxL := nL) (ret := ret) hy hw ?_
  intro p e s m args below meth c s₁ B hml hv
  obtain ⟨rfl, hsz, hP, hK, hNW⟩ := hv
  subst hsz
  subst ho
  have hb' := body p e s m as.toArray below meth c
  rw [lg_entry_eq]
  exact hb' ⟨B.exec, B.bytes, hml, findClass_of_methodNamed B.named, atoms_spec (ws := ws) B.pre, hK, hq, fun i hi => Or.inl ⟨i, hi, rfl⟩, fun a h => Or.inr h, B.returns, B.notSynchronized, hNW⟩ s.heap [] _ hP va_S.rf (lv_entry as hlen)
theorem z_iret {post : Int32 → (Nat → va_E) → Prop} {v : Int32} (hdg : decode cc pc = .ok (.ireturn, 1)) (h : post v f) : Z p l e R s m args below meth c (MQ below (va_Qi post (fun f' t => va_P D cl (idW n q f') t.heap) A) args s cells slots A) cells slots cc nL own Ts D cl tys n q A (some .int) f pc lv [.int v] := by
  intro C H locs ls hP hS hl
  obtain ⟨hx, hb, hml, hown, hts, hK, hq, hA, hN, hr, hlk, hNW⟩ := id C
  exact W.iret (v := v) hx hb hr (fun t ht hW => ⟨⟨v, f, rfl, h, by show va_P D cl (idW n q f) t.heap; rw [ht]; exact hP⟩, hS.F ht⟩) hS.2.2 hdg hlk
theorem z_zret {post : Int32 → (Nat → va_E) → Prop} {v : Int32} (hdg : decode cc pc = .ok (.ireturn, 1)) (hv : v = iI 0 ∨ v = iI 1) (h : post v f) : Z p l e R s m args below meth c (MQ below (va_Qi post (fun f' t => va_P D cl (idW n q f') t.heap) A) args s cells slots A) cells slots cc nL own Ts D cl tys n q A (some .boolean) f pc lv [.int v] := by
  intro C H locs ls hP hS hl
  obtain ⟨hx, hb, hml, hown, hts, hK, hq, hA, hN, hr, hlk, hNW⟩ := id C
  exact W.zret (v := v) hx hb hr (by rcases hv with rfl | rfl <;> decide) (fun t ht hW => ⟨⟨v, f, rfl, h, by show va_P D cl (idW n q f) t.heap; rw [ht]; exact hP⟩, hS.F ht⟩) hS.2.2 hdg hlk
theorem z_callVi {y : MethodName} {bytes : ByteArray} {maxL index : Nat} {ret' : Option FieldType} {ws ws' : List Cond} {rm : Room} {As rest stk : List Value} {post : Int32 → (Nat → va_E) → Prop} {i ci N : Nat} {fs : List Value} {Cn : String} {T : u_T} (hM : Cti l D cl tys n q y ws rm (.ref (q i) :: As) f post) (hdg : decode cc pc = .ok (.invokevirtual index, 3)) (hG : GoodIn Ts (wsV own index Cn y ws)) (hw : ws = Cond.code y bytes maxL ret' :: ws') (hd : y.cls = Cn ∧ y.cls ≠ "java/lang/invoke/MethodHandle" ∧ y.cls ≠ "java/lang/invoke/VarHandle" ∧ (parseMethodDescriptor y.desc).map (fun d => d.parameters.length) = some As.length) (hR : rm.frames + 1 ≤ R.frames ∧ 8 + (maxL + 11) + rm.locals ≤ R.locals) (hrc : rm.cells = 0) (hrs : rm.slots = 0) (hi : i < n) (hf : f i = .inr (ci, fs)) (hc : cl[ci]? = some (Cn, T, N)) (hstk : As.reverse ++ .ref (q i) :: rest = stk) (hW : (rest.map fun v => v.category).sum ≤ 8) (hcs : cells ≤ R.cells ∧ slots ≤ R.slots) (kk : ∀ (x : Int32) (g : Nat → va_E), post x g → Z p l e R s m args below meth c Q cells slots cc nL own Ts D cl tys n q A ret g (pc + 3) lv (.int x :: rest)) : Z p l e R s m args below meth c Q cells slots cc nL own Ts D cl tys n q A ret f pc lv stk := by
  intro C H locs ls hP hS hl
  obtain ⟨hx, hb, hml, hown, hts, hK, hq, hA, hN, hr, hlk, hNW⟩ := id C
  have hAQ : ∀ a, AQ n q H.size a → A a := fun a h => h.elim (fun ⟨i, hi, e⟩ => e ▸ hA i hi) (fun h => hN a (Nat.le_trans hS.1 h))
  subst hstk
  exact va_calli (mc := 0) (ms := 0) (va_runV (As := As) (rest := rest) ⟨hx, hb, hml, hown, hts⟩ (hM H.size) (cwV As.length hts hG hw hrc hrs hd hR) ⟨fun a U g mk q => ⟨q.1, q.2.1, q.2.2.1, va_K.moved (u := U) (U := U.calling g mk a) (Vm.Alike.refl U.vm) q.2.2.2.1, NWs.same (u := U) (U := U.calling g mk a) rfl q.2.2.2.2⟩, va_recv hK hP (ci := ci) (q0 := i) hc (idW_at hi hf), fun U hU hW => ⟨rfl, by rw [hU], by rw [hU]; exact hP, va_K.moved hW.alike hK, hNW.warm hW⟩⟩ rfl rfl hl.1 rfl (lv_room hW) hdg hcs) hS (fun a _ h => hAQ a h) hAQ (fun x g t H1 locs1 ht hvm hp hB hz hk hS1 => kk x g hp C H1 locs1 ls (by rw [← ht]; exact hB) hS1 hl)
theorem z_callSi {y : MethodName} {bytes : ByteArray} {maxL index : Nat} {ret' : Option FieldType} {ws ws' : List Cond} {rm : Room} {As rest stk : List Value} {post : Int32 → (Nat → va_E) → Prop} (hM : Cti l D cl tys n q y ws rm As f post) (hdg : decode cc pc = .ok (.invokestatic index, 3)) (hG : GoodIn Ts (va_wsS own index y ws)) (hw : ws = Cond.code y bytes maxL ret' :: ws') (hd : y.cls ≠ "java/lang/invoke/MethodHandle" ∧ y.cls ≠ "java/lang/invoke/VarHandle" ∧ (parseMethodDescriptor y.desc).map (fun d => d.parameters.length) = some As.length) (hR : rm.frames + 1 ≤ R.frames ∧ 8 + (maxL + 11) + rm.locals ≤ R.locals) (hrc : rm.cells = 0) (hrs : rm.slots = 0) (hstk : As.reverse ++ rest = stk) (hW : (rest.map fun v => v.category).sum ≤ 8) (hcs : cells ≤ R.cells ∧ slots ≤ R.slots) (kk : ∀ (x : Int32) (g : Nat → va_E), post x g → Z p l e R s m args below meth c Q cells slots cc nL own Ts D cl tys n q A ret g (pc + 3) lv (.int x :: rest)) : Z p l e R s m args below meth c Q cells slots cc nL own Ts D cl tys n q A ret f pc lv stk := by
  intro C H locs ls hP hS hl
  obtain ⟨hx, hb, hml, hown, hts, hK, hq, hA, hN, hr, hlk, hNW⟩ := id C
  have hAQ : ∀ a, AQ n q H.size a → A a := fun a h => h.elim (fun ⟨i, hi, e⟩ => e ▸ hA i hi) (fun h => hN a (Nat.le_trans hS.1 h))
  subst hstk
  exact va_calli (mc := 0) (ms := 0) (va_runS (As := As) (rest := rest) ⟨hx, hb, hml, hown, hts⟩ (hM H.size) (va_cwS As.length hts hG hw hrc hrs hd hR) ⟨fun a U g mk q => ⟨q.1, q.2.1, q.2.2.1, va_K.moved (u := U) (U := U.calling g mk a) (Vm.Alike.refl U.vm) q.2.2.2.1, NWs.same (u := U) (U := U.calling g mk a) rfl q.2.2.2.2⟩, fun U hU hW => ⟨rfl, by rw [hU], by rw [hU]; exact hP, va_K.moved hW.alike hK, hNW.warm hW⟩⟩ rfl rfl hl.1 rfl (lv_room hW) hdg hcs) hS (fun a _ h => hAQ a h) hAQ (fun x g t H1 locs1 ht hvm hp hB hz hk hS1 => kk x g hp C H1 locs1 ls (by rw [← ht]; exact hB) hS1 hl)
theorem z_callNi {y : MethodName} {bytes : ByteArray} {maxL index : Nat} {ret' : Option FieldType} {ws ws' : List Cond} {rm : Room} {As rest stk : List Value} {post : Int32 → (Nat → va_E) → Prop} {host : String} (hM : Cti l D cl tys n q y ws rm As f post) (hdg : decode cc pc = .ok (.invokestatic index, 3)) (hG : GoodIn Ts ws) (hnl : Cond.methodLinkNest own index y host ∈ NWl) (hst : Cond.static y ∈ Ts) (hin : Cond.initialized y.cls ∈ Ts) (hw : ws = Cond.code y bytes maxL ret' :: ws') (hd : y.cls ≠ "java/lang/invoke/MethodHandle" ∧ y.cls ≠ "java/lang/invoke/VarHandle" ∧ (parseMethodDescriptor y.desc).map (fun d => d.parameters.length) = some As.length) (hR : rm.frames + 1 ≤ R.frames ∧ 8 + (maxL + 11) + rm.locals ≤ R.locals) (hrc : rm.cells = 0) (hrs : rm.slots = 0) (hstk : As.reverse ++ rest = stk) (hW : (rest.map fun v => v.category).sum ≤ 8) (hcs : cells ≤ R.cells ∧ slots ≤ R.slots) (kk : ∀ (x : Int32) (g : Nat → va_E), post x g → Z p l e R s m args below meth c Q cells slots cc nL own Ts D cl tys n q A ret g (pc + 3) lv (.int x :: rest)) : Z p l e R s m args below meth c Q cells slots cc nL own Ts D cl tys n q A ret f pc lv stk := by
  intro C H locs ls hP hS hl
  obtain ⟨hx, hb, hml, hown, hts, hK, hq, hA, hN, hr, hlk, hNW⟩ := id C
  have hAQ : ∀ a, AQ n q H.size a → A a := fun a h => h.elim (fun ⟨i, hi, e⟩ => e ▸ hA i hi) (fun h => hN a (Nat.le_trans hS.1 h))
  subst hstk
  exact va_calli (mc := 0) (ms := 0) (va_runSN (As := As) (rest := rest) ⟨hx, hb, hml, hown, hts⟩ (hM H.size) ⟨va_cnB As.length hts hG hw hrc hrs (hNW _ hnl) (hts _ hin) hd hR, hts _ hst, trivial⟩ ⟨fun a U g mk q => ⟨q.1, q.2.1, q.2.2.1, va_K.moved (u := U) (U := U.calling g mk a) (Vm.Alike.refl U.vm) q.2.2.2.1, NWs.same (u := U) (U := U.calling g mk a) rfl q.2.2.2.2⟩, fun U hU hW => ⟨rfl, by rw [hU], by rw [hU]; exact hP, va_K.moved hW.alike hK, hNW.warm hW⟩⟩ rfl rfl hl.1 rfl (lv_room hW) hdg hcs) hS (fun a _ h => hAQ a h) hAQ (fun x g t H1 locs1 ht hvm hp hB hz hk hS1 => kk x g hp C H1 locs1 ls (by rw [← ht]; exact hB) hS1 hl)
def Ctl (l : Launch) (D : va_G) (cl : List vw_C) (tys : List (ClassId × FieldType)) (n : Nat) (q : Nat → Nat) (y : MethodName) (ws : List Cond) (rm : Room) (as : List Value) (f : Nat → va_E) (post : Int64 → (Nat → va_E) → Prop) : Prop :=
  ∀ sz : Nat, Met l y ws rm (va_Pc as (fun U => U.heap.size = sz ∧ va_P D cl (idW n q f) U.heap ∧ va_K D cl tys U ∧ NWs U)) (va_Ql post (fun f' t => va_P D cl (idW n q f') t.heap) (AQ n q sz)) 0 0 (AQ n q sz)
theorem Ctl.of {y : MethodName} {ws ws' : List Cond} {rm : Room} {as : List Value} {post : Int64 → (Nat → va_E) → Prop} (hy : plainName y.cls = true) (ho : y.cls = own) (hw : ws = Cond.code y cc nL ret :: ws') (hq : qOk n q) (hlen : (lg_sl as).length ≤ nL) (body : ∀ (p : Program) (e : Env) (s : State) (m : MethodId) (args : Array Value) (below : List Frame) (meth : Method) (c : Code), Z p l e rm s m args below meth c (MQ below (va_Ql post (fun f' t => va_P D cl (idW n q f') t.heap) (AQ n q s.heap.size)) args s 0 0 (AQ n q s.heap.size)) 0 0 cc nL own ws D cl tys n q (AQ n q s.heap.size) ret f 0 (lv_args 0 as) []) : Ctl l D cl tys n q y ws rm as f post := by
  intro sz
  refine Met.ofW (cc := cc) (maxL := nL) (ret := ret) hy hw ?_
  intro p e s m args below meth c s₁ B hml hv
  obtain ⟨rfl, hsz, hP, hK, hNW⟩ := hv
  subst hsz
  subst ho
  have hb' := body p e s m as.toArray below meth c
  rw [lg_entry_eq]
  exact hb' ⟨B.exec, B.bytes, hml, findClass_of_methodNamed B.named, atoms_spec (ws := ws) B.pre, hK, hq, fun i hi => Or.inl ⟨i, hi, rfl⟩, fun a h => Or.inr h, B.returns, B.notSynchronized, hNW⟩ s.heap [] _ hP va_S.rf (lv_entry as hlen)
theorem z_lret {post : Int64 → (Nat → va_E) → Prop} {v : Int64} (hdg : decode cc pc = .ok (.lreturn, 1)) (h : post v f) : Z p l e R s m args below meth c (MQ below (va_Ql post (fun f' t => va_P D cl (idW n q f') t.heap) A) args s cells slots A) cells slots cc nL own Ts D cl tys n q A (some .long) f pc lv [.long v] := by
  intro C H locs ls hP hS hl
  obtain ⟨hx, hb, hml, hown, hts, hK, hq, hA, hN, hr, hlk, hNW⟩ := id C
  exact W.lret (v := v) hx hb hr (fun t ht hW => ⟨⟨v, f, rfl, h, by show va_P D cl (idW n q f) t.heap; rw [ht]; exact hP⟩, hS.F ht⟩) hS.2.2 hdg hlk
theorem z_callVl {y : MethodName} {bytes : ByteArray} {maxL index : Nat} {ret' : Option FieldType} {ws ws' : List Cond} {rm : Room} {As rest stk : List Value} {post : Int64 → (Nat → va_E) → Prop} {i ci N : Nat} {fs : List Value} {Cn : String} {T : u_T} (hM : Ctl l D cl tys n q y ws rm (.ref (q i) :: As) f post) (hdg : decode cc pc = .ok (.invokevirtual index, 3)) (hG : GoodIn Ts (wsV own index Cn y ws)) (hw : ws = Cond.code y bytes maxL ret' :: ws') (hd : y.cls = Cn ∧ y.cls ≠ "java/lang/invoke/MethodHandle" ∧ y.cls ≠ "java/lang/invoke/VarHandle" ∧ (parseMethodDescriptor y.desc).map (fun d => d.parameters.length) = some As.length) (hR : rm.frames + 1 ≤ R.frames ∧ 8 + (maxL + 11) + rm.locals ≤ R.locals) (hrc : rm.cells = 0) (hrs : rm.slots = 0) (hi : i < n) (hf : f i = .inr (ci, fs)) (hc : cl[ci]? = some (Cn, T, N)) (hstk : As.reverse ++ .ref (q i) :: rest = stk) (hW : (rest.map fun v => v.category).sum ≤ 8) (hcs : cells ≤ R.cells ∧ slots ≤ R.slots) (kk : ∀ (x : Int64) (g : Nat → va_E), post x g → Z p l e R s m args below meth c Q cells slots cc nL own Ts D cl tys n q A ret g (pc + 3) lv (.long x :: rest)) : Z p l e R s m args below meth c Q cells slots cc nL own Ts D cl tys n q A ret f pc lv stk := by
  intro C H locs ls hP hS hl
  obtain ⟨hx, hb, hml, hown, hts, hK, hq, hA, hN, hr, hlk, hNW⟩ := id C
  have hAQ : ∀ a, AQ n q H.size a → A a := fun a h => h.elim (fun ⟨i, hi, e⟩ => e ▸ hA i hi) (fun h => hN a (Nat.le_trans hS.1 h))
  subst hstk
  exact va_calll (mc := 0) (ms := 0) (va_runV (As := As) (rest := rest) ⟨hx, hb, hml, hown, hts⟩ (hM H.size) (cwV As.length hts hG hw hrc hrs hd hR) ⟨fun a U g mk q => ⟨q.1, q.2.1, q.2.2.1, va_K.moved (u := U) (U := U.calling g mk a) (Vm.Alike.refl U.vm) q.2.2.2.1, NWs.same (u := U) (U := U.calling g mk a) rfl q.2.2.2.2⟩, va_recv hK hP (ci := ci) (q0 := i) hc (idW_at hi hf), fun U hU hW => ⟨rfl, by rw [hU], by rw [hU]; exact hP, va_K.moved hW.alike hK, hNW.warm hW⟩⟩ rfl rfl hl.1 rfl (lv_room hW) hdg hcs) hS (fun a _ h => hAQ a h) hAQ (fun x g t H1 locs1 ht hvm hp hB hz hk hS1 => kk x g hp C H1 locs1 ls (by rw [← ht]; exact hB) hS1 hl)
theorem z_callSl {y : MethodName} {bytes : ByteArray} {maxL index : Nat} {ret' : Option FieldType} {ws ws' : List Cond} {rm : Room} {As rest stk : List Value} {post : Int64 → (Nat → va_E) → Prop} (hM : Ctl l D cl tys n q y ws rm As f post) (hdg : decode cc pc = .ok (.invokestatic index, 3)) (hG : GoodIn Ts (va_wsS own index y ws)) (hw : ws = Cond.code y bytes maxL ret' :: ws') (hd : y.cls ≠ "java/lang/invoke/MethodHandle" ∧ y.cls ≠ "java/lang/invoke/VarHandle" ∧ (parseMethodDescriptor y.desc).map (fun d => d.parameters.length) = some As.length) (hR : rm.frames + 1 ≤ R.frames ∧ 8 + (maxL + 11) + rm.locals ≤ R.locals) (hrc : rm.cells = 0) (hrs : rm.slots = 0) (hstk : As.reverse ++ rest = stk) (hW : (rest.map fun v => v.category).sum ≤ 8) (hcs : cells ≤ R.cells ∧ slots ≤ R.slots) (kk : ∀ (x : Int64) (g : Nat → va_E), post x g → Z p l e R s m args below meth c Q cells slots cc nL own Ts D cl tys n q A ret g (pc + 3) lv (.long x :: rest)) : Z p l e R s m args below meth c Q cells slots cc nL own Ts D cl tys n q A ret f pc lv stk := by
  intro C H locs ls hP hS hl
  obtain ⟨hx, hb, hml, hown, hts, hK, hq, hA, hN, hr, hlk, hNW⟩ := id C
  have hAQ : ∀ a, AQ n q H.size a → A a := fun a h => h.elim (fun ⟨i, hi, e⟩ => e ▸ hA i hi) (fun h => hN a (Nat.le_trans hS.1 h))
  subst hstk
  exact va_calll (mc := 0) (ms := 0) (va_runS (As := As) (rest := rest) ⟨hx, hb, hml, hown, hts⟩ (hM H.size) (va_cwS As.length hts hG hw hrc hrs hd hR) ⟨fun a U g mk q => ⟨q.1, q.2.1, q.2.2.1, va_K.moved (u := U) (U := U.calling g mk a) (Vm.Alike.refl U.vm) q.2.2.2.1, NWs.same (u := U) (U := U.calling g mk a) rfl q.2.2.2.2⟩, fun U hU hW => ⟨rfl, by rw [hU], by rw [hU]; exact hP, va_K.moved hW.alike hK, hNW.warm hW⟩⟩ rfl rfl hl.1 rfl (lv_room hW) hdg hcs) hS (fun a _ h => hAQ a h) hAQ (fun x g t H1 locs1 ht hvm hp hB hz hk hS1 => kk x g hp C H1 locs1 ls (by rw [← ht]; exact hB) hS1 hl)
theorem z_callNl {y : MethodName} {bytes : ByteArray} {maxL index : Nat} {ret' : Option FieldType} {ws ws' : List Cond} {rm : Room} {As rest stk : List Value} {post : Int64 → (Nat → va_E) → Prop} {host : String} (hM : Ctl l D cl tys n q y ws rm As f post) (hdg : decode cc pc = .ok (.invokestatic index, 3)) (hG : GoodIn Ts ws) (hnl : Cond.methodLinkNest own index y host ∈ NWl) (hst : Cond.static y ∈ Ts) (hin : Cond.initialized y.cls ∈ Ts) (hw : ws = Cond.code y bytes maxL ret' :: ws') (hd : y.cls ≠ "java/lang/invoke/MethodHandle" ∧ y.cls ≠ "java/lang/invoke/VarHandle" ∧ (parseMethodDescriptor y.desc).map (fun d => d.parameters.length) = some As.length) (hR : rm.frames + 1 ≤ R.frames ∧ 8 + (maxL + 11) + rm.locals ≤ R.locals) (hrc : rm.cells = 0) (hrs : rm.slots = 0) (hstk : As.reverse ++ rest = stk) (hW : (rest.map fun v => v.category).sum ≤ 8) (hcs : cells ≤ R.cells ∧ slots ≤ R.slots) (kk : ∀ (x : Int64) (g : Nat → va_E), post x g → Z p l e R s m args below meth c Q cells slots cc nL own Ts D cl tys n q A ret g (pc + 3) lv (.long x :: rest)) : Z p l e R s m args below meth c Q cells slots cc nL own Ts D cl tys n q A ret f pc lv stk := by
  intro C H locs ls hP hS hl
  obtain ⟨hx, hb, hml, hown, hts, hK, hq, hA, hN, hr, hlk, hNW⟩ := id C
  have hAQ : ∀ a, AQ n q H.size a → A a := fun a h => h.elim (fun ⟨i, hi, e⟩ => e ▸ hA i hi) (fun h => hN a (Nat.le_trans hS.1 h))
  subst hstk
  exact va_calll (mc := 0) (ms := 0) (va_runSN (As := As) (rest := rest) ⟨hx, hb, hml, hown, hts⟩ (hM H.size) ⟨va_cnB As.length hts hG hw hrc hrs (hNW _ hnl) (hts _ hin) hd hR, hts _ hst, trivial⟩ ⟨fun a U g mk q => ⟨q.1, q.2.1, q.2.2.1, va_K.moved (u := U) (U := U.calling g mk a) (Vm.Alike.refl U.vm) q.2.2.2.1, NWs.same (u := U) (U := U.calling g mk a) rfl q.2.2.2.2⟩, fun U hU hW => ⟨rfl, by rw [hU], by rw [hU]; exact hP, va_K.moved hW.alike hK, hNW.warm hW⟩⟩ rfl rfl hl.1 rfl (lv_room hW) hdg hcs) hS (fun a _ h => hAQ a h) hAQ (fun x g t H1 locs1 ht hvm hp hB hz hk hS1 => kk x g hp C H1 locs1 ls (by rw [← ht]; exact hB) hS1 hl)
def Ctq (l : Launch) (D : va_G) (cl : List vw_C) (tys : List (ClassId × FieldType)) (n : Nat) (q : Nat → Nat) (y : MethodName) (ws : List Cond) (rm : Room) (as : List Value) (f : Nat → va_E) (post : Option Nat → (Nat → va_E) → Prop) : Prop :=
  ∀ sz : Nat, Met l y ws rm (va_Pc as (fun U => U.heap.size = sz ∧ va_P D cl (idW n q f) U.heap ∧ va_K D cl tys U ∧ NWs U)) (va_Qq post (fun f' t => va_P D cl (idW n q f') t.heap) (AQ n q sz)) 0 0 (AQ n q sz)
theorem Ctq.of {y : MethodName} {ws ws' : List Cond} {rm : Room} {as : List Value} {post : Option Nat → (Nat → va_E) → Prop} (hy : plainName y.cls = true) (ho : y.cls = own) (hw : ws = Cond.code y cc nL ret :: ws') (hq : qOk n q) (hlen : (lg_sl as).length ≤ nL) (body : ∀ (p : Program) (e : Env) (s : State) (m : MethodId) (args : Array Value) (below : List Frame) (meth : Method) (c : Code), Z p l e rm s m args below meth c (MQ below (va_Qq post (fun f' t => va_P D cl (idW n q f') t.heap) (AQ n q s.heap.size)) args s 0 0 (AQ n q s.heap.size)) 0 0 cc nL own ws D cl tys n q (AQ n q s.heap.size) ret f 0 (lv_args 0 as) []) : Ctq l D cl tys n q y ws rm as f post := by
  intro sz
  refine Met.ofW (cc := cc) (maxL := nL) (ret := ret) hy hw ?_
  intro p e s m args below meth c s₁ B hml hv
  obtain ⟨rfl, hsz, hP, hK, hNW⟩ := hv
  subst hsz
  subst ho
  have hb' := body p e s m as.toArray below meth c
  rw [lg_entry_eq]
  exact hb' ⟨B.exec, B.bytes, hml, findClass_of_methodNamed B.named, atoms_spec (ws := ws) B.pre, hK, hq, fun i hi => Or.inl ⟨i, hi, rfl⟩, fun a h => Or.inr h, B.returns, B.notSynchronized, hNW⟩ s.heap [] _ hP va_S.rf (lv_entry as hlen)
theorem z_qret {post : Option Nat → (Nat → va_E) → Prop} {v : Value} {rt : FieldType} (r : Option Nat) (hdg : decode cc pc = .ok (.areturn, 1)) (hrt : (∃ n, rt = .object n) ∨ ∃ t, rt = .array t) (hv : v = va_rf r) (h : post r f) : Z p l e R s m args below meth c (MQ below (va_Qq post (fun f' t => va_P D cl (idW n q f') t.heap) A) args s cells slots A) cells slots cc nL own Ts D cl tys n q A (some rt) f pc lv [v] := by
  intro C H locs ls hP hS hl
  obtain ⟨hx, hb, hml, hown, hts, hK, hq, hA, hN, hr, hlk, hNW⟩ := id C
  subst hv
  exact W.aret (v := va_rf r) hx hb hr hrt (va_rf_or r) (fun t ht hW => ⟨⟨r, f, rfl, h, by show va_P D cl (idW n q f) t.heap; rw [ht]; exact hP⟩, hS.F ht⟩) hS.2.2 hdg hlk
theorem z_callVq {y : MethodName} {bytes : ByteArray} {maxL index : Nat} {ret' : Option FieldType} {ws ws' : List Cond} {rm : Room} {As rest stk : List Value} {post : Option Nat → (Nat → va_E) → Prop} {i ci N : Nat} {fs : List Value} {Cn : String} {T : u_T} (hM : Ctq l D cl tys n q y ws rm (.ref (q i) :: As) f post) (hdg : decode cc pc = .ok (.invokevirtual index, 3)) (hG : GoodIn Ts (wsV own index Cn y ws)) (hw : ws = Cond.code y bytes maxL ret' :: ws') (hd : y.cls = Cn ∧ y.cls ≠ "java/lang/invoke/MethodHandle" ∧ y.cls ≠ "java/lang/invoke/VarHandle" ∧ (parseMethodDescriptor y.desc).map (fun d => d.parameters.length) = some As.length) (hR : rm.frames + 1 ≤ R.frames ∧ 8 + (maxL + 11) + rm.locals ≤ R.locals) (hrc : rm.cells = 0) (hrs : rm.slots = 0) (hi : i < n) (hf : f i = .inr (ci, fs)) (hc : cl[ci]? = some (Cn, T, N)) (hstk : As.reverse ++ .ref (q i) :: rest = stk) (hW : (rest.map fun v => v.category).sum ≤ 8) (hcs : cells ≤ R.cells ∧ slots ≤ R.slots) (kk : ∀ (x : Option Nat) (g : Nat → va_E), post x g → Z p l e R s m args below meth c Q cells slots cc nL own Ts D cl tys n q A ret g (pc + 3) lv (va_rf x :: rest)) : Z p l e R s m args below meth c Q cells slots cc nL own Ts D cl tys n q A ret f pc lv stk := by
  intro C H locs ls hP hS hl
  obtain ⟨hx, hb, hml, hown, hts, hK, hq, hA, hN, hr, hlk, hNW⟩ := id C
  have hAQ : ∀ a, AQ n q H.size a → A a := fun a h => h.elim (fun ⟨i, hi, e⟩ => e ▸ hA i hi) (fun h => hN a (Nat.le_trans hS.1 h))
  subst hstk
  exact va_callq (mc := 0) (ms := 0) (va_runV (As := As) (rest := rest) ⟨hx, hb, hml, hown, hts⟩ (hM H.size) (cwV As.length hts hG hw hrc hrs hd hR) ⟨fun a U g mk q => ⟨q.1, q.2.1, q.2.2.1, va_K.moved (u := U) (U := U.calling g mk a) (Vm.Alike.refl U.vm) q.2.2.2.1, NWs.same (u := U) (U := U.calling g mk a) rfl q.2.2.2.2⟩, va_recv hK hP (ci := ci) (q0 := i) hc (idW_at hi hf), fun U hU hW => ⟨rfl, by rw [hU], by rw [hU]; exact hP, va_K.moved hW.alike hK, hNW.warm hW⟩⟩ rfl rfl hl.1 rfl (lv_room hW) hdg hcs) hS (fun a _ h => hAQ a h) hAQ (fun x g t H1 locs1 ht hvm hp hB hz hk hS1 => kk x g hp C H1 locs1 ls (by rw [← ht]; exact hB) hS1 hl)
theorem z_callSq {y : MethodName} {bytes : ByteArray} {maxL index : Nat} {ret' : Option FieldType} {ws ws' : List Cond} {rm : Room} {As rest stk : List Value} {post : Option Nat → (Nat → va_E) → Prop} (hM : Ctq l D cl tys n q y ws rm As f post) (hdg : decode cc pc = .ok (.invokestatic index, 3)) (hG : GoodIn Ts (va_wsS own index y ws)) (hw : ws = Cond.code y bytes maxL ret' :: ws') (hd : y.cls ≠ "java/lang/invoke/MethodHandle" ∧ y.cls ≠ "java/lang/invoke/VarHandle" ∧ (parseMethodDescriptor y.desc).map (fun d => d.parameters.length) = some As.length) (hR : rm.frames + 1 ≤ R.frames ∧ 8 + (maxL + 11) + rm.locals ≤ R.locals) (hrc : rm.cells = 0) (hrs : rm.slots = 0) (hstk : As.reverse ++ rest = stk) (hW : (rest.map fun v => v.category).sum ≤ 8) (hcs : cells ≤ R.cells ∧ slots ≤ R.slots) (kk : ∀ (x : Option Nat) (g : Nat → va_E), post x g → Z p l e R s m args below meth c Q cells slots cc nL own Ts D cl tys n q A ret g (pc + 3) lv (va_rf x :: rest)) : Z p l e R s m args below meth c Q cells slots cc nL own Ts D cl tys n q A ret f pc lv stk := by
  intro C H locs ls hP hS hl
  obtain ⟨hx, hb, hml, hown, hts, hK, hq, hA, hN, hr, hlk, hNW⟩ := id C
  have hAQ : ∀ a, AQ n q H.size a → A a := fun a h => h.elim (fun ⟨i, hi, e⟩ => e ▸ hA i hi) (fun h => hN a (Nat.le_trans hS.1 h))
  subst hstk
  exact va_callq (mc := 0) (ms := 0) (va_runS (As := As) (rest := rest) ⟨hx, hb, hml, hown, hts⟩ (hM H.size) (va_cwS As.length hts hG hw hrc hrs hd hR) ⟨fun a U g mk q => ⟨q.1, q.2.1, q.2.2.1, va_K.moved (u := U) (U := U.calling g mk a) (Vm.Alike.refl U.vm) q.2.2.2.1, NWs.same (u := U) (U := U.calling g mk a) rfl q.2.2.2.2⟩, fun U hU hW => ⟨rfl, by rw [hU], by rw [hU]; exact hP, va_K.moved hW.alike hK, hNW.warm hW⟩⟩ rfl rfl hl.1 rfl (lv_room hW) hdg hcs) hS (fun a _ h => hAQ a h) hAQ (fun x g t H1 locs1 ht hvm hp hB hz hk hS1 => kk x g hp C H1 locs1 ls (by rw [← ht]; exact hB) hS1 hl)
theorem z_callNq {y : MethodName} {bytes : ByteArray} {maxL index : Nat} {ret' : Option FieldType} {ws ws' : List Cond} {rm : Room} {As rest stk : List Value} {post : Option Nat → (Nat → va_E) → Prop} {host : String} (hM : Ctq l D cl tys n q y ws rm As f post) (hdg : decode cc pc = .ok (.invokestatic index, 3)) (hG : GoodIn Ts ws) (hnl : Cond.methodLinkNest own index y host ∈ NWl) (hst : Cond.static y ∈ Ts) (hin : Cond.initialized y.cls ∈ Ts) (hw : ws = Cond.code y bytes maxL ret' :: ws') (hd : y.cls ≠ "java/lang/invoke/MethodHandle" ∧ y.cls ≠ "java/lang/invoke/VarHandle" ∧ (parseMethodDescriptor y.desc).map (fun d => d.parameters.length) = some As.length) (hR : rm.frames + 1 ≤ R.frames ∧ 8 + (maxL + 11) + rm.locals ≤ R.locals) (hrc : rm.cells = 0) (hrs : rm.slots = 0) (hstk : As.reverse ++ rest = stk) (hW : (rest.map fun v => v.category).sum ≤ 8) (hcs : cells ≤ R.cells ∧ slots ≤ R.slots) (kk : ∀ (x : Option Nat) (g : Nat → va_E), post x g → Z p l e R s m args below meth c Q cells slots cc nL own Ts D cl tys n q A ret g (pc + 3) lv (va_rf x :: rest)) : Z p l e R s m args below meth c Q cells slots cc nL own Ts D cl tys n q A ret f pc lv stk := by
  intro C H locs ls hP hS hl
  obtain ⟨hx, hb, hml, hown, hts, hK, hq, hA, hN, hr, hlk, hNW⟩ := id C
  have hAQ : ∀ a, AQ n q H.size a → A a := fun a h => h.elim (fun ⟨i, hi, e⟩ => e ▸ hA i hi) (fun h => hN a (Nat.le_trans hS.1 h))
  subst hstk
  exact va_callq (mc := 0) (ms := 0) (va_runSN (As := As) (rest := rest) ⟨hx, hb, hml, hown, hts⟩ (hM H.size) ⟨va_cnB As.length hts hG hw hrc hrs (hNW _ hnl) (hts _ hin) hd hR, hts _ hst, trivial⟩ ⟨fun a U g mk q => ⟨q.1, q.2.1, q.2.2.1, va_K.moved (u := U) (U := U.calling g mk a) (Vm.Alike.refl U.vm) q.2.2.2.1, NWs.same (u := U) (U := U.calling g mk a) rfl q.2.2.2.2⟩, fun U hU hW => ⟨rfl, by rw [hU], by rw [hU]; exact hP, va_K.moved hW.alike hK, hNW.warm hW⟩⟩ rfl rfl hl.1 rfl (lv_room hW) hdg hcs) hS (fun a _ h => hAQ a h) hAQ (fun x g t H1 locs1 ht hvm hp hB hz hk hS1 => kk x g hp C H1 locs1 ls (by rw [← ht]; exact hB) hS1 hl)
def Ctv (l : Launch) (D : va_G) (cl : List vw_C) (tys : List (ClassId × FieldType)) (n : Nat) (q : Nat → Nat) (y : MethodName) (ws : List Cond) (rm : Room) (as : List Value) (f : Nat → va_E) (post : (Nat → va_E) → Prop) : Prop :=
  ∀ sz : Nat, Met l y ws rm (va_Pc as (fun U => U.heap.size = sz ∧ va_P D cl (idW n q f) U.heap ∧ va_K D cl tys U ∧ NWs U)) (va_Qv post (fun f' t => va_P D cl (idW n q f') t.heap) (AQ n q sz)) 0 0 (AQ n q sz)
theorem Ctv.of {y : MethodName} {ws ws' : List Cond} {rm : Room} {as : List Value} {post : (Nat → va_E) → Prop} (hy : plainName y.cls = true) (ho : y.cls = own) (hw : ws = Cond.code y cc nL ret :: ws') (hq : qOk n q) (hlen : (lg_sl as).length ≤ nL) (body : ∀ (p : Program) (e : Env) (s : State) (m : MethodId) (args : Array Value) (below : List Frame) (meth : Method) (c : Code), Z p l e rm s m args below meth c (MQ below (va_Qv post (fun f' t => va_P D cl (idW n q f') t.heap) (AQ n q s.heap.size)) args s 0 0 (AQ n q s.heap.size)) 0 0 cc nL own ws D cl tys n q (AQ n q s.heap.size) ret f 0 (lv_args 0 as) []) : Ctv l D cl tys n q y ws rm as f post := by
  intro sz
  refine Met.ofW (cc := cc) (maxL := nL) (ret := ret) hy hw ?_
  intro p e s m args below meth c s₁ B hml hv
  obtain ⟨rfl, hsz, hP, hK, hNW⟩ := hv
  subst hsz
  subst ho
  have hb' := body p e s m as.toArray below meth c
  rw [lg_entry_eq]
  exact hb' ⟨B.exec, B.bytes, hml, findClass_of_methodNamed B.named, atoms_spec (ws := ws) B.pre, hK, hq, fun i hi => Or.inl ⟨i, hi, rfl⟩, fun a h => Or.inr h, B.returns, B.notSynchronized, hNW⟩ s.heap [] _ hP va_S.rf (lv_entry as hlen)
theorem z_vret {post : (Nat → va_E) → Prop} (hdg : decode cc pc = .ok (.return_, 1)) (h : post f) : Z p l e R s m args below meth c (MQ below (va_Qv post (fun f' t => va_P D cl (idW n q f') t.heap) A) args s cells slots A) cells slots cc nL own Ts D cl tys n q A none f pc lv [] := by
  intro C H locs ls hP hS hl
  obtain ⟨hx, hb, hml, hown, hts, hK, hq, hA, hN, hr, hlk, hNW⟩ := id C
  exact W.vret hx hb hr (fun t ht hW => ⟨⟨f, rfl, h, by show va_P D cl (idW n q f) t.heap; rw [ht]; exact hP⟩, hS.F ht⟩) hS.2.2 hdg hlk
theorem z_callVv {y : MethodName} {bytes : ByteArray} {maxL index : Nat} {ret' : Option FieldType} {ws ws' : List Cond} {rm : Room} {As rest stk : List Value} {post : (Nat → va_E) → Prop} {i ci N : Nat} {fs : List Value} {Cn : String} {T : u_T} (hM : Ctv l D cl tys n q y ws rm (.ref (q i) :: As) f post) (hdg : decode cc pc = .ok (.invokevirtual index, 3)) (hG : GoodIn Ts (wsV own index Cn y ws)) (hw : ws = Cond.code y bytes maxL ret' :: ws') (hd : y.cls = Cn ∧ y.cls ≠ "java/lang/invoke/MethodHandle" ∧ y.cls ≠ "java/lang/invoke/VarHandle" ∧ (parseMethodDescriptor y.desc).map (fun d => d.parameters.length) = some As.length) (hR : rm.frames + 1 ≤ R.frames ∧ 8 + (maxL + 11) + rm.locals ≤ R.locals) (hrc : rm.cells = 0) (hrs : rm.slots = 0) (hi : i < n) (hf : f i = .inr (ci, fs)) (hc : cl[ci]? = some (Cn, T, N)) (hstk : As.reverse ++ .ref (q i) :: rest = stk) (hW : (rest.map fun v => v.category).sum ≤ 8) (hcs : cells ≤ R.cells ∧ slots ≤ R.slots) (kk : ∀ (g : Nat → va_E), post g → Z p l e R s m args below meth c Q cells slots cc nL own Ts D cl tys n q A ret g (pc + 3) lv rest) : Z p l e R s m args below meth c Q cells slots cc nL own Ts D cl tys n q A ret f pc lv stk := by
  intro C H locs ls hP hS hl
  obtain ⟨hx, hb, hml, hown, hts, hK, hq, hA, hN, hr, hlk, hNW⟩ := id C
  have hAQ : ∀ a, AQ n q H.size a → A a := fun a h => h.elim (fun ⟨i, hi, e⟩ => e ▸ hA i hi) (fun h => hN a (Nat.le_trans hS.1 h))
  subst hstk
  exact va_callv (mc := 0) (ms := 0) (va_runV (As := As) (rest := rest) ⟨hx, hb, hml, hown, hts⟩ (hM H.size) (cwV As.length hts hG hw hrc hrs hd hR) ⟨fun a U g mk q => ⟨q.1, q.2.1, q.2.2.1, va_K.moved (u := U) (U := U.calling g mk a) (Vm.Alike.refl U.vm) q.2.2.2.1, NWs.same (u := U) (U := U.calling g mk a) rfl q.2.2.2.2⟩, va_recv hK hP (ci := ci) (q0 := i) hc (idW_at hi hf), fun U hU hW => ⟨rfl, by rw [hU], by rw [hU]; exact hP, va_K.moved hW.alike hK, hNW.warm hW⟩⟩ rfl rfl hl.1 rfl (lv_room hW) hdg hcs) hS (fun a _ h => hAQ a h) hAQ (fun g t H1 locs1 ht hvm hp hB hz hk hS1 => kk g hp C H1 locs1 ls (by rw [← ht]; exact hB) hS1 hl)
theorem z_callSv {y : MethodName} {bytes : ByteArray} {maxL index : Nat} {ret' : Option FieldType} {ws ws' : List Cond} {rm : Room} {As rest stk : List Value} {post : (Nat → va_E) → Prop} (hM : Ctv l D cl tys n q y ws rm As f post) (hdg : decode cc pc = .ok (.invokestatic index, 3)) (hG : GoodIn Ts (va_wsS own index y ws)) (hw : ws = Cond.code y bytes maxL ret' :: ws') (hd : y.cls ≠ "java/lang/invoke/MethodHandle" ∧ y.cls ≠ "java/lang/invoke/VarHandle" ∧ (parseMethodDescriptor y.desc).map (fun d => d.parameters.length) = some As.length) (hR : rm.frames + 1 ≤ R.frames ∧ 8 + (maxL + 11) + rm.locals ≤ R.locals) (hrc : rm.cells = 0) (hrs : rm.slots = 0) (hstk : As.reverse ++ rest = stk) (hW : (rest.map fun v => v.category).sum ≤ 8) (hcs : cells ≤ R.cells ∧ slots ≤ R.slots) (kk : ∀ (g : Nat → va_E), post g → Z p l e R s m args below meth c Q cells slots cc nL own Ts D cl tys n q A ret g (pc + 3) lv rest) : Z p l e R s m args below meth c Q cells slots cc nL own Ts D cl tys n q A ret f pc lv stk := by
  intro C H locs ls hP hS hl
  obtain ⟨hx, hb, hml, hown, hts, hK, hq, hA, hN, hr, hlk, hNW⟩ := id C
  have hAQ : ∀ a, AQ n q H.size a → A a := fun a h => h.elim (fun ⟨i, hi, e⟩ => e ▸ hA i hi) (fun h => hN a (Nat.le_trans hS.1 h))
  subst hstk
  exact va_callv (mc := 0) (ms := 0) (va_runS (As := As) (rest := rest) ⟨hx, hb, hml, hown, hts⟩ (hM H.size) (va_cwS As.length hts hG hw hrc hrs hd hR) ⟨fun a U g mk q => ⟨q.1, q.2.1, q.2.2.1, va_K.moved (u := U) (U := U.calling g mk a) (Vm.Alike.refl U.vm) q.2.2.2.1, NWs.same (u := U) (U := U.calling g mk a) rfl q.2.2.2.2⟩, fun U hU hW => ⟨rfl, by rw [hU], by rw [hU]; exact hP, va_K.moved hW.alike hK, hNW.warm hW⟩⟩ rfl rfl hl.1 rfl (lv_room hW) hdg hcs) hS (fun a _ h => hAQ a h) hAQ (fun g t H1 locs1 ht hvm hp hB hz hk hS1 => kk g hp C H1 locs1 ls (by rw [← ht]; exact hB) hS1 hl)
theorem z_callNv {y : MethodName} {bytes : ByteArray} {maxL index : Nat} {ret' : Option FieldType} {ws ws' : List Cond} {rm : Room} {As rest stk : List Value} {post : (Nat → va_E) → Prop} {host : String} (hM : Ctv l D cl tys n q y ws rm As f post) (hdg : decode cc pc = .ok (.invokestatic index, 3)) (hG : GoodIn Ts ws) (hnl : Cond.methodLinkNest own index y host ∈ NWl) (hst : Cond.static y ∈ Ts) (hin : Cond.initialized y.cls ∈ Ts) (hw : ws = Cond.code y bytes maxL ret' :: ws') (hd : y.cls ≠ "java/lang/invoke/MethodHandle" ∧ y.cls ≠ "java/lang/invoke/VarHandle" ∧ (parseMethodDescriptor y.desc).map (fun d => d.parameters.length) = some As.length) (hR : rm.frames + 1 ≤ R.frames ∧ 8 + (maxL + 11) + rm.locals ≤ R.locals) (hrc : rm.cells = 0) (hrs : rm.slots = 0) (hstk : As.reverse ++ rest = stk) (hW : (rest.map fun v => v.category).sum ≤ 8) (hcs : cells ≤ R.cells ∧ slots ≤ R.slots) (kk : ∀ (g : Nat → va_E), post g → Z p l e R s m args below meth c Q cells slots cc nL own Ts D cl tys n q A ret g (pc + 3) lv rest) : Z p l e R s m args below meth c Q cells slots cc nL own Ts D cl tys n q A ret f pc lv stk := by
  intro C H locs ls hP hS hl
  obtain ⟨hx, hb, hml, hown, hts, hK, hq, hA, hN, hr, hlk, hNW⟩ := id C
  have hAQ : ∀ a, AQ n q H.size a → A a := fun a h => h.elim (fun ⟨i, hi, e⟩ => e ▸ hA i hi) (fun h => hN a (Nat.le_trans hS.1 h))
  subst hstk
  exact va_callv (mc := 0) (ms := 0) (va_runSN (As := As) (rest := rest) ⟨hx, hb, hml, hown, hts⟩ (hM H.size) ⟨va_cnB As.length hts hG hw hrc hrs (hNW _ hnl) (hts _ hin) hd hR, hts _ hst, trivial⟩ ⟨fun a U g mk q => ⟨q.1, q.2.1, q.2.2.1, va_K.moved (u := U) (U := U.calling g mk a) (Vm.Alike.refl U.vm) q.2.2.2.1, NWs.same (u := U) (U := U.calling g mk a) rfl q.2.2.2.2⟩, fun U hU hW => ⟨rfl, by rw [hU], by rw [hU]; exact hP, va_K.moved hW.alike hK, hNW.warm hW⟩⟩ rfl rfl hl.1 rfl (lv_room hW) hdg hcs) hS (fun a _ h => hAQ a h) hAQ (fun g t H1 locs1 ht hvm hp hB hz hk hS1 => kk g hp C H1 locs1 ls (by rw [← ht]; exact hB) hS1 hl)
end ZK
