/-! the law: two worlds, and the script -/
def sx (xs : Nat → Int32) (k : Nat) : Int := (xs k).toInt
theorem sx_rng (xs : Nat → Int32) (k : Nat) : -2147483648 ≤ sx xs k ∧ sx xs k < 2147483648 := iI_rng _
theorem sx_is (xs : Nat → Int32) (k : Nat) : xs k = iI (sx xs k) := (iI_self _).symm
def VC (p : Program) (s : State) (m : MethodId) (args : Array Value) (meth : Method) (c : Code) (cc : ByteArray) (nL : Nat) (own : String) (Ts : List Cond) (D : va_G) (cl : List vw_C) (tys : List (ClassId × FieldType)) (n1 : Nat) (q1 : Nat → Nat) (n2 : Nat) (q2 : Nat → Nat) (b L : Nat) (xs : Nat → Int32) : Prop :=
  p.tables.exec = Jvm.exec ∧ c.code = cc ∧ c.maxLocals = nL ∧ s.vm.findClass own = some m.cls ∧ (∀ w ∈ Ts, w.before args s = true) ∧ va_K D cl tys s ∧ (qOk n1 q1 ∧ qOk n2 q2 ∧ (∀ i j, i < n1 → j < n2 → q1 i ≠ q2 j)) ∧ ((∀ i, i < n1 → s.heap.size ≤ q1 i) ∧ (∀ i, i < n2 → s.heap.size ≤ q2 i)) ∧ NWs s ∧ (va_X b L xs s s.heap ∧ b < s.heap.size ∧ L ≤ 3584)
def VV (p : Program) (l : Launch) (e : Env) (R : Room) (s : State) (m : MethodId) (args : Array Value) (below : List Frame) (meth : Method) (c : Code) (Q : State → Prop) (cells slots : Nat) (cc : ByteArray) (nL : Nat) (own : String) (Ts : List Cond) (D : va_G) (cl : List vw_C) (tys : List (ClassId × FieldType)) (n1 : Nat) (q1 : Nat → Nat) (n2 : Nat) (q2 : Nat → Nat) (b L : Nat) (xs : Nat → Int32) (f1 f2 : Nat → va_E) (pc : Nat) (lv : List (Nat × Value)) (st : List Value) : Prop :=
  VC p s m args meth c cc nL own Ts D cl tys n1 q1 n2 q2 b L xs → ∀ (H : Heap) (locs : List Loc) (ls : Array Slot), va_P D cl (idW n1 q1 f1) H → va_P D cl (idW n2 q2 f2) H → va_S (fun a => s.heap.size ≤ a) s.heap H locs → lv_has ls nL lv → W p l e R s m args below meth c H locs cells slots Q (F0 m pc ls st)
theorem other_kept {D : va_G} {cl : List vw_C} {n1 n2 : Nat} {q1 q2 : Nat → Nat} {f2 : Nat → va_E} {H H1 : Heap} (hd : ∀ i j, i < n1 → j < n2 → q1 i ≠ q2 j) (hP2 : va_P D cl (idW n2 q2 f2) H) (hk : ∀ q : Nat, q < H.size → ¬ AQ n1 q1 H.size q → H1[q]? = H[q]?) : va_P D cl (idW n2 q2 f2) H1 := by
  refine hP2.kept (fun k x hx => ?_)
  have hlt := (hP2 k x hx).lt
  obtain ⟨h1, rfl⟩ := idW_some hx
  refine hk _ hlt (fun h => ?_)
  rcases h with ⟨i, hi, he⟩ | h
  · exact hd i k hi h1 he.symm
  · exact absurd hlt (Nat.not_lt.mpr h)
section VL
variable {p : Program} {l : Launch} {e : Env} {R : Room} {s : State} {m : MethodId} {args : Array Value} {below : List Frame} {meth : Method} {c : Code} {Q : State → Prop} {cells slots : Nat} {cc : ByteArray} {nL : Nat} {own : String} {Ts : List Cond} {D : va_G} {cl : List vw_C} {tys : List (ClassId × FieldType)} {n1 : Nat} {q1 : Nat → Nat} {n2 : Nat} {q2 : Nat → Nat} {b L : Nat} {xs : Nat → Int32}
variable {f1 f2 : Nat → va_E} {pc : Nat} {lv : List (Nat × Value)} {st : List Value}
theorem v_iconst {k : Int} (hdg : decode cc pc = .ok (.iconst k, 1)) (kk : VV p l e R s m args below meth c Q cells slots cc nL own Ts D cl tys n1 q1 n2 q2 b L xs f1 f2 (pc + 1) lv (.int (iI k) :: st)) : VV p l e R s m args below meth c Q cells slots cc nL own Ts D cl tys n1 q1 n2 q2 b L xs f1 f2 pc lv st := by
  intro C H locs ls hP1 hP2 hS hl
  obtain ⟨hx, hb, hml, hown, hts, hK, hq, hA, hNW, hX, hbl, hL⟩ := id C
  exact lv_iconst (v := iI k) hx hb hdg rfl (kk C H locs ls hP1 hP2 hS hl)
theorem v_bipush {k : Int} (hdg : decode cc pc = .ok (.bipush k, 2)) (hv : (Int8.ofInt k).toInt32 = iI k) (kk : VV p l e R s m args below meth c Q cells slots cc nL own Ts D cl tys n1 q1 n2 q2 b L xs f1 f2 (pc + 2) lv (.int (iI k) :: st)) : VV p l e R s m args below meth c Q cells slots cc nL own Ts D cl tys n1 q1 n2 q2 b L xs f1 f2 pc lv st := by
  intro C H locs ls hP1 hP2 hS hl
  obtain ⟨hx, hb, hml, hown, hts, hK, hq, hA, hNW, hX, hbl, hL⟩ := id C
  exact lv_bipush (v := iI k) hx hb hdg hv (kk C H locs ls hP1 hP2 hS hl)
theorem v_aload_n {k : Fin 4} {i j x : Nat} (hdg : decode cc pc = .ok (.aload_n k, 1)) (hi : (k : Nat) = i) (hj : lv[j]? = some (i, .ref x)) (kk : VV p l e R s m args below meth c Q cells slots cc nL own Ts D cl tys n1 q1 n2 q2 b L xs f1 f2 (pc + 1) lv (.ref x :: st)) : VV p l e R s m args below meth c Q cells slots cc nL own Ts D cl tys n1 q1 n2 q2 b L xs f1 f2 pc lv st := by
  intro C H locs ls hP1 hP2 hS hl
  obtain ⟨hx, hb, hml, hown, hts, hK, hq, hA, hNW, hX, hbl, hL⟩ := id C
  exact lv_aload_n hx hb hdg hi (lv_at hl j hj) (kk C H locs ls hP1 hP2 hS hl)
theorem v_iload_n {k : Fin 4} {i j : Nat} {x : Int32} (hdg : decode cc pc = .ok (.iload_n k, 1)) (hi : (k : Nat) = i) (hj : lv[j]? = some (i, .int x)) (kk : VV p l e R s m args below meth c Q cells slots cc nL own Ts D cl tys n1 q1 n2 q2 b L xs f1 f2 (pc + 1) lv (.int x :: st)) : VV p l e R s m args below meth c Q cells slots cc nL own Ts D cl tys n1 q1 n2 q2 b L xs f1 f2 pc lv st := by
  intro C H locs ls hP1 hP2 hS hl
  obtain ⟨hx, hb, hml, hown, hts, hK, hq, hA, hNW, hX, hbl, hL⟩ := id C
  exact lv_iload_n hx hb hdg hi (lv_at hl j hj) (kk C H locs ls hP1 hP2 hS hl)
theorem v_iinc {i j : Nat} {k a : Int} (lv' : List (Nat × Value)) (hdg : decode cc pc = .ok (.iinc i k, 3)) (hj : lv[j]? = some (i, .int (iI a))) (hn : i < nL) (hl' : (i, Value.int (iI (a + k))) :: lv.filter (fun q => !(q.1 == i) && !(q.1 + 1 == i && q.2.category == 2)) = lv') (kk : VV p l e R s m args below meth c Q cells slots cc nL own Ts D cl tys n1 q1 n2 q2 b L xs f1 f2 (pc + 3) lv' st) : VV p l e R s m args below meth c Q cells slots cc nL own Ts D cl tys n1 q1 n2 q2 b L xs f1 f2 pc lv st := by
  intro C H locs ls hP1 hP2 hS hl
  obtain ⟨hx, hb, hml, hown, hts, hK, hq, hA, hNW, hX, hbl, hL⟩ := id C
  exact lv_iinc (v := iI (a + k)) (lv' := lv') hx hb hdg hl hj (iI_add a k) hn hl' (fun ls2 hl2 => kk C H locs ls2 hP1 hP2 hS hl2)
theorem v_sub (lv' : List (Nat × Value)) (ks : List Nat) (h : lv_pick lv ks = lv') (kk : VV p l e R s m args below meth c Q cells slots cc nL own Ts D cl tys n1 q1 n2 q2 b L xs f1 f2 pc lv' st) : VV p l e R s m args below meth c Q cells slots cc nL own Ts D cl tys n1 q1 n2 q2 b L xs f1 f2 pc lv st := fun C H locs ls hP1 hP2 hS hl => kk C H locs ls hP1 hP2 hS (lv_sub hl ks h)
theorem v_iadd {x y : Int} (hdg : decode cc pc = .ok (.iadd, 1)) (kk : VV p l e R s m args below meth c Q cells slots cc nL own Ts D cl tys n1 q1 n2 q2 b L xs f1 f2 (pc + 1) lv (.int (iI (x + y)) :: st)) : VV p l e R s m args below meth c Q cells slots cc nL own Ts D cl tys n1 q1 n2 q2 b L xs f1 f2 pc lv (.int (iI y) :: .int (iI x) :: st) := by
  intro C H locs ls hP1 hP2 hS hl
  obtain ⟨hx, hb, hml, hown, hts, hK, hq, hA, hNW, hX, hbl, hL⟩ := id C
  exact lv_iadd hx hb hdg (by rw [iI_add]; exact kk C H locs ls hP1 hP2 hS hl)
theorem v_isub {x y : Int} (hdg : decode cc pc = .ok (.isub, 1)) (kk : VV p l e R s m args below meth c Q cells slots cc nL own Ts D cl tys n1 q1 n2 q2 b L xs f1 f2 (pc + 1) lv (.int (iI (x - y)) :: st)) : VV p l e R s m args below meth c Q cells slots cc nL own Ts D cl tys n1 q1 n2 q2 b L xs f1 f2 pc lv (.int (iI y) :: .int (iI x) :: st) := by
  intro C H locs ls hP1 hP2 hS hl
  obtain ⟨hx, hb, hml, hown, hts, hK, hq, hA, hNW, hX, hbl, hL⟩ := id C
  exact lv_isub hx hb hdg (by rw [iI_sub]; exact kk C H locs ls hP1 hP2 hS hl)
theorem v_iand {x y : Int32} (v : Int32) (hdg : decode cc pc = .ok (.iand, 1)) (hv : x &&& y = v) (kk : VV p l e R s m args below meth c Q cells slots cc nL own Ts D cl tys n1 q1 n2 q2 b L xs f1 f2 (pc + 1) lv (.int v :: st)) : VV p l e R s m args below meth c Q cells slots cc nL own Ts D cl tys n1 q1 n2 q2 b L xs f1 f2 pc lv (.int y :: .int x :: st) := by
  intro C H locs ls hP1 hP2 hS hl
  obtain ⟨hx, hb, hml, hown, hts, hK, hq, hA, hNW, hX, hbl, hL⟩ := id C
  subst hv
  exact lv_iand hx hb hdg (kk C H locs ls hP1 hP2 hS hl)
theorem v_slen  (hdg : decode cc pc = .ok (.arraylength, 1)) (kk : VV p l e R s m args below meth c Q cells slots cc nL own Ts D cl tys n1 q1 n2 q2 b L xs f1 f2 (pc + 1) lv (.int (iI (L : Int)) :: st)) : VV p l e R s m args below meth c Q cells slots cc nL own Ts D cl tys n1 q1 n2 q2 b L xs f1 f2 pc lv (.ref b :: st) := by
  intro C H locs ls hP1 hP2 hS hl
  obtain ⟨hx, hb, hml, hown, hts, hK, hq, hA, hNW, hX, hbl, hL⟩ := id C
  exact va_slen hx hb hX hbl (Nat.not_le.mpr hbl) hS hdg (by rw [show Int32.ofNat L = iI (L : Int) from iI_nI L]; exact kk C H locs ls hP1 hP2 hS hl)
theorem v_sld {a : Int} (hdg : decode cc pc = .ok (.iaload, 1)) (h0 : 0 ≤ a) (h1 : a < (L : Int)) (kk : VV p l e R s m args below meth c Q cells slots cc nL own Ts D cl tys n1 q1 n2 q2 b L xs f1 f2 (pc + 1) lv (.int (iI (sx xs a.toNat)) :: st)) : VV p l e R s m args below meth c Q cells slots cc nL own Ts D cl tys n1 q1 n2 q2 b L xs f1 f2 pc lv (.int (iI a) :: .ref b :: st) := by
  intro C H locs ls hP1 hP2 hS hl
  obtain ⟨hx, hb, hml, hown, hts, hK, hq, hA, hNW, hX, hbl, hL⟩ := id C
  exact va_sld hx hb hX hbl (Nat.not_le.mpr hbl) hS (iI_in (by omega) h0 h1) hdg (by rw [iI_nat (by omega), sx_is xs a.toNat]; exact kk C H locs ls hP1 hP2 hS hl)
theorem v_goto {off : Int} {tgt : Nat} (hdg : decode cc pc = .ok (.goto off, 3)) (ht : (pc : Int) + off = (tgt : Int)) (kk : VV p l e R s m args below meth c Q cells slots cc nL own Ts D cl tys n1 q1 n2 q2 b L xs f1 f2 tgt lv st) : VV p l e R s m args below meth c Q cells slots cc nL own Ts D cl tys n1 q1 n2 q2 b L xs f1 f2 pc lv st := by
  intro C H locs ls hP1 hP2 hS hl
  obtain ⟨hx, hb, hml, hown, hts, hK, hq, hA, hNW, hX, hbl, hL⟩ := id C
  exact lv_goto hx hb hdg ht (kk C H locs ls hP1 hP2 hS hl)
theorem v_icmp_gt {x y : Int} {off : Int} {tgt : Nat} (hdg : decode cc pc = .ok (.if_icmp .gt off, 3)) (ht : (pc : Int) + off = (tgt : Int)) (ha : -2147483648 ≤ x ∧ x < 2147483648) (hb2 : -2147483648 ≤ y ∧ y < 2147483648) (kt : y < x → VV p l e R s m args below meth c Q cells slots cc nL own Ts D cl tys n1 q1 n2 q2 b L xs f1 f2 tgt lv st) (kf : ¬ y < x → VV p l e R s m args below meth c Q cells slots cc nL own Ts D cl tys n1 q1 n2 q2 b L xs f1 f2 (pc + 3) lv st) : VV p l e R s m args below meth c Q cells slots cc nL own Ts D cl tys n1 q1 n2 q2 b L xs f1 f2 pc lv (.int (iI y) :: .int (iI x) :: st) := by
  intro C H locs ls hP1 hP2 hS hl
  obtain ⟨hx, hb, hml, hown, hts, hK, hq, hA, hNW, hX, hbl, hL⟩ := id C
  exact lv_icmp_gt hx hb hdg ht (fun h => kt ((iI_lt hb2 ha).mp h) C H locs ls hP1 hP2 hS hl) (fun h => kf (fun z => h ((iI_lt hb2 ha).mpr z)) C H locs ls hP1 hP2 hS hl)
theorem v_icmp_same {x : Int32} {off : Int} {tgt : Nat} (hdg : decode cc pc = .ok (.if_icmp .eq off, 3)) (ht : (pc : Int) + off = (tgt : Int)) (kk : VV p l e R s m args below meth c Q cells slots cc nL own Ts D cl tys n1 q1 n2 q2 b L xs f1 f2 tgt lv st) : VV p l e R s m args below meth c Q cells slots cc nL own Ts D cl tys n1 q1 n2 q2 b L xs f1 f2 pc lv (.int x :: .int x :: st) := by
  intro C H locs ls hP1 hP2 hS hl
  obtain ⟨hx, hb, hml, hown, hts, hK, hq, hA, hNW, hX, hbl, hL⟩ := id C
  exact lv_icmp_eq hx hb hdg ht (fun _ => kk C H locs ls hP1 hP2 hS hl) (fun h => absurd rfl h)
theorem v_if_eq {x : Int} {off : Int} {tgt : Nat} (hdg : decode cc pc = .ok (.ifCond .eq off, 3)) (ht : (pc : Int) + off = (tgt : Int)) (ha : -2147483648 ≤ x ∧ x < 2147483648) (kt : x = 0 → VV p l e R s m args below meth c Q cells slots cc nL own Ts D cl tys n1 q1 n2 q2 b L xs f1 f2 tgt lv st) (kf : ¬ x = 0 → VV p l e R s m args below meth c Q cells slots cc nL own Ts D cl tys n1 q1 n2 q2 b L xs f1 f2 (pc + 3) lv st) : VV p l e R s m args below meth c Q cells slots cc nL own Ts D cl tys n1 q1 n2 q2 b L xs f1 f2 pc lv (.int (iI x) :: st) := by
  intro C H locs ls hP1 hP2 hS hl
  obtain ⟨hx, hb, hml, hown, hts, hK, hq, hA, hNW, hX, hbl, hL⟩ := id C
  exact lv_if_eq hx hb hdg ht (fun h => kt ((iI_eq0 ha).mp h) C H locs ls hP1 hP2 hS hl) (fun h => kf (fun z => h ((iI_eq0 ha).mpr z)) C H locs ls hP1 hP2 hS hl)
theorem v_lcmp_same {x : Int64} (hdg : decode cc pc = .ok (.lcmp, 1)) (kk : VV p l e R s m args below meth c Q cells slots cc nL own Ts D cl tys n1 q1 n2 q2 b L xs f1 f2 (pc + 1) lv (.int (iI 0) :: st)) : VV p l e R s m args below meth c Q cells slots cc nL own Ts D cl tys n1 q1 n2 q2 b L xs f1 f2 pc lv (.long x :: .long x :: st) := by
  intro C H locs ls hP1 hP2 hS hl
  obtain ⟨hx, hb, hml, hown, hts, hK, hq, hA, hNW, hX, hbl, hL⟩ := id C
  have h0 : lg_cmp x x = iI 0 := by
    unfold lg_cmp
    rw [if_neg (fun h => by rw [GT.gt, Int64.lt_iff_toInt_lt] at h; omega), if_pos rfl]
    rfl
  exact W.lcmp hx hb hdg (by rw [h0]; exact kk C H locs ls hP1 hP2 hS hl)
theorem v_tsw {dflt lo hi : Int} {offs : Array Int} {len : Nat} {x kv off : Int} {tgt : Nat} (hdg : decode cc pc = .ok (.tableswitch dflt lo hi offs, len)) (ha : -2147483648 ≤ x ∧ x < 2147483648) (hk : x = kv) (h1 : lo ≤ kv) (h2 : kv ≤ hi) (ho : offs[(kv - lo).toNat]? = some off) (ht : (pc : Int) + off = (tgt : Int)) (kk : VV p l e R s m args below meth c Q cells slots cc nL own Ts D cl tys n1 q1 n2 q2 b L xs f1 f2 tgt lv st) : VV p l e R s m args below meth c Q cells slots cc nL own Ts D cl tys n1 q1 n2 q2 b L xs f1 f2 pc lv (.int (iI x) :: st) := by
  intro C H locs ls hP1 hP2 hS hl
  obtain ⟨hx, hb, hml, hown, hts, hK, hq, hA, hNW, hX, hbl, hL⟩ := id C
  subst hk
  exact lv_tableIn hx hb hdg (by rw [iI_toInt ha]; omega) (by rw [iI_toInt ha]; omega) (by rw [iI_toInt ha]; exact ho) ht (kk C H locs ls hP1 hP2 hS hl)
theorem v_tswD {dflt lo hi : Int} {offs : Array Int} {len : Nat} {x : Int} {tgt : Nat} (hdg : decode cc pc = .ok (.tableswitch dflt lo hi offs, len)) (ha : -2147483648 ≤ x ∧ x < 2147483648) (h : x < lo ∨ hi < x) (ht : (pc : Int) + dflt = (tgt : Int)) (kk : VV p l e R s m args below meth c Q cells slots cc nL own Ts D cl tys n1 q1 n2 q2 b L xs f1 f2 tgt lv st) : VV p l e R s m args below meth c Q cells slots cc nL own Ts D cl tys n1 q1 n2 q2 b L xs f1 f2 pc lv (.int (iI x) :: st) := by
  intro C H locs ls hP1 hP2 hS hl
  obtain ⟨hx, hb, hml, hown, hts, hK, hq, hA, hNW, hX, hbl, hL⟩ := id C
  exact lv_tableOut hx hb hdg (by rw [iI_toInt ha]; exact h) ht (kk C H locs ls hP1 hP2 hS hl)
theorem v_call1i {y : MethodName} {bytes : ByteArray} {maxL index : Nat} {ret' : Option FieldType} {ws ws' : List Cond} {rm : Room} {As rest stk : List Value} {post : Int32 → (Nat → va_E) → Prop} {i ci N : Nat} {fs : List Value} {Cn : String} {T : u_T} (hM : Cti l D cl tys n1 q1 y ws rm (.ref (q1 i) :: As) f1 post) (hdg : decode cc pc = .ok (.invokevirtual index, 3)) (hG : GoodIn Ts (wsV own index Cn y ws)) (hw : ws = Cond.code y bytes maxL ret' :: ws') (hd : y.cls = Cn ∧ y.cls ≠ "java/lang/invoke/MethodHandle" ∧ y.cls ≠ "java/lang/invoke/VarHandle" ∧ (parseMethodDescriptor y.desc).map (fun d => d.parameters.length) = some As.length) (hR : rm.frames + 1 ≤ R.frames ∧ 8 + (maxL + 11) + rm.locals ≤ R.locals) (hrc : rm.cells = 0) (hrs : rm.slots = 0) (hi : i < n1) (hf : f1 i = .inr (ci, fs)) (hc : cl[ci]? = some (Cn, T, N)) (hstk : As.reverse ++ .ref (q1 i) :: rest = stk) (hW : (rest.map fun v => v.category).sum ≤ 8) (hcs : cells ≤ R.cells ∧ slots ≤ R.slots) (kk : ∀ (x : Int32) (g : Nat → va_E), post x g → VV p l e R s m args below meth c Q cells slots cc nL own Ts D cl tys n1 q1 n2 q2 b L xs g f2 (pc + 3) lv (.int x :: rest)) : VV p l e R s m args below meth c Q cells slots cc nL own Ts D cl tys n1 q1 n2 q2 b L xs f1 f2 pc lv stk := by
  intro C H locs ls hP1 hP2 hS hl
  obtain ⟨hx, hb, hml, hown, hts, hK, hq, hA, hNW, hX, hbl, hL⟩ := id C
  have hAQ : ∀ a, AQ n1 q1 H.size a → s.heap.size ≤ a := fun a h => h.elim (fun ⟨i, hi, e⟩ => e ▸ hA.1 i hi) (fun h => Nat.le_trans hS.1 h)
  subst hstk
  exact va_calli (mc := 0) (ms := 0) (va_runV (As := As) (rest := rest) ⟨hx, hb, hml, hown, hts⟩ (hM H.size) (cwV As.length hts hG hw hrc hrs hd hR) ⟨fun a U g mk q => ⟨q.1, q.2.1, q.2.2.1, va_K.moved (u := U) (U := U.calling g mk a) (Vm.Alike.refl U.vm) q.2.2.2.1, NWs.same (u := U) (U := U.calling g mk a) rfl q.2.2.2.2⟩, va_recv hK hP1 (ci := ci) (q0 := i) hc (idW_at hi hf), fun U hU hW => ⟨rfl, by rw [hU], by rw [hU]; exact hP1, va_K.moved hW.alike hK, hNW.warm hW⟩⟩ rfl rfl hl.1 rfl (lv_room hW) hdg hcs) hS (fun a _ h => hAQ a h) hAQ (fun x g t H1 locs1 ht hvm hp hB hz hk hS1 => kk x g hp C H1 locs1 ls (by rw [← ht]; exact hB) (other_kept hq.2.2 hP2 hk) hS1 hl)
theorem v_call2i {y : MethodName} {bytes : ByteArray} {maxL index : Nat} {ret' : Option FieldType} {ws ws' : List Cond} {rm : Room} {As rest stk : List Value} {post : Int32 → (Nat → va_E) → Prop} {i ci N : Nat} {fs : List Value} {Cn : String} {T : u_T} (hM : Cti l D cl tys n2 q2 y ws rm (.ref (q2 i) :: As) f2 post) (hdg : decode cc pc = .ok (.invokevirtual index, 3)) (hG : GoodIn Ts (wsV own index Cn y ws)) (hw : ws = Cond.code y bytes maxL ret' :: ws') (hd : y.cls = Cn ∧ y.cls ≠ "java/lang/invoke/MethodHandle" ∧ y.cls ≠ "java/lang/invoke/VarHandle" ∧ (parseMethodDescriptor y.desc).map (fun d => d.parameters.length) = some As.length) (hR : rm.frames + 1 ≤ R.frames ∧ 8 + (maxL + 11) + rm.locals ≤ R.locals) (hrc : rm.cells = 0) (hrs : rm.slots = 0) (hi : i < n2) (hf : f2 i = .inr (ci, fs)) (hc : cl[ci]? = some (Cn, T, N)) (hstk : As.reverse ++ .ref (q2 i) :: rest = stk) (hW : (rest.map fun v => v.category).sum ≤ 8) (hcs : cells ≤ R.cells ∧ slots ≤ R.slots) (kk : ∀ (x : Int32) (g : Nat → va_E), post x g → VV p l e R s m args below meth c Q cells slots cc nL own Ts D cl tys n1 q1 n2 q2 b L xs f1 g (pc + 3) lv (.int x :: rest)) : VV p l e R s m args below meth c Q cells slots cc nL own Ts D cl tys n1 q1 n2 q2 b L xs f1 f2 pc lv stk := by
  intro C H locs ls hP1 hP2 hS hl
  obtain ⟨hx, hb, hml, hown, hts, hK, hq, hA, hNW, hX, hbl, hL⟩ := id C
  have hAQ : ∀ a, AQ n2 q2 H.size a → s.heap.size ≤ a := fun a h => h.elim (fun ⟨i, hi, e⟩ => e ▸ hA.2 i hi) (fun h => Nat.le_trans hS.1 h)
  subst hstk
  exact va_calli (mc := 0) (ms := 0) (va_runV (As := As) (rest := rest) ⟨hx, hb, hml, hown, hts⟩ (hM H.size) (cwV As.length hts hG hw hrc hrs hd hR) ⟨fun a U g mk q => ⟨q.1, q.2.1, q.2.2.1, va_K.moved (u := U) (U := U.calling g mk a) (Vm.Alike.refl U.vm) q.2.2.2.1, NWs.same (u := U) (U := U.calling g mk a) rfl q.2.2.2.2⟩, va_recv hK hP2 (ci := ci) (q0 := i) hc (idW_at hi hf), fun U hU hW => ⟨rfl, by rw [hU], by rw [hU]; exact hP2, va_K.moved hW.alike hK, hNW.warm hW⟩⟩ rfl rfl hl.1 rfl (lv_room hW) hdg hcs) hS (fun a _ h => hAQ a h) hAQ (fun x g t H1 locs1 ht hvm hp hB hz hk hS1 => kk x g hp C H1 locs1 ls (other_kept (fun i j hi hj => (hq.2.2 j i hj hi).symm) hP1 hk) (by rw [← ht]; exact hB) hS1 hl)
theorem v_call1l {y : MethodName} {bytes : ByteArray} {maxL index : Nat} {ret' : Option FieldType} {ws ws' : List Cond} {rm : Room} {As rest stk : List Value} {post : Int64 → (Nat → va_E) → Prop} {i ci N : Nat} {fs : List Value} {Cn : String} {T : u_T} (hM : Ctl l D cl tys n1 q1 y ws rm (.ref (q1 i) :: As) f1 post) (hdg : decode cc pc = .ok (.invokevirtual index, 3)) (hG : GoodIn Ts (wsV own index Cn y ws)) (hw : ws = Cond.code y bytes maxL ret' :: ws') (hd : y.cls = Cn ∧ y.cls ≠ "java/lang/invoke/MethodHandle" ∧ y.cls ≠ "java/lang/invoke/VarHandle" ∧ (parseMethodDescriptor y.desc).map (fun d => d.parameters.length) = some As.length) (hR : rm.frames + 1 ≤ R.frames ∧ 8 + (maxL + 11) + rm.locals ≤ R.locals) (hrc : rm.cells = 0) (hrs : rm.slots = 0) (hi : i < n1) (hf : f1 i = .inr (ci, fs)) (hc : cl[ci]? = some (Cn, T, N)) (hstk : As.reverse ++ .ref (q1 i) :: rest = stk) (hW : (rest.map fun v => v.category).sum ≤ 8) (hcs : cells ≤ R.cells ∧ slots ≤ R.slots) (kk : ∀ (x : Int64) (g : Nat → va_E), post x g → VV p l e R s m args below meth c Q cells slots cc nL own Ts D cl tys n1 q1 n2 q2 b L xs g f2 (pc + 3) lv (.long x :: rest)) : VV p l e R s m args below meth c Q cells slots cc nL own Ts D cl tys n1 q1 n2 q2 b L xs f1 f2 pc lv stk := by
  intro C H locs ls hP1 hP2 hS hl
  obtain ⟨hx, hb, hml, hown, hts, hK, hq, hA, hNW, hX, hbl, hL⟩ := id C
  have hAQ : ∀ a, AQ n1 q1 H.size a → s.heap.size ≤ a := fun a h => h.elim (fun ⟨i, hi, e⟩ => e ▸ hA.1 i hi) (fun h => Nat.le_trans hS.1 h)
  subst hstk
  exact va_calll (mc := 0) (ms := 0) (va_runV (As := As) (rest := rest) ⟨hx, hb, hml, hown, hts⟩ (hM H.size) (cwV As.length hts hG hw hrc hrs hd hR) ⟨fun a U g mk q => ⟨q.1, q.2.1, q.2.2.1, va_K.moved (u := U) (U := U.calling g mk a) (Vm.Alike.refl U.vm) q.2.2.2.1, NWs.same (u := U) (U := U.calling g mk a) rfl q.2.2.2.2⟩, va_recv hK hP1 (ci := ci) (q0 := i) hc (idW_at hi hf), fun U hU hW => ⟨rfl, by rw [hU], by rw [hU]; exact hP1, va_K.moved hW.alike hK, hNW.warm hW⟩⟩ rfl rfl hl.1 rfl (lv_room hW) hdg hcs) hS (fun a _ h => hAQ a h) hAQ (fun x g t H1 locs1 ht hvm hp hB hz hk hS1 => kk x g hp C H1 locs1 ls (by rw [← ht]; exact hB) (other_kept hq.2.2 hP2 hk) hS1 hl)
theorem v_call2l {y : MethodName} {bytes : ByteArray} {maxL index : Nat} {ret' : Option FieldType} {ws ws' : List Cond} {rm : Room} {As rest stk : List Value} {post : Int64 → (Nat → va_E) → Prop} {i ci N : Nat} {fs : List Value} {Cn : String} {T : u_T} (hM : Ctl l D cl tys n2 q2 y ws rm (.ref (q2 i) :: As) f2 post) (hdg : decode cc pc = .ok (.invokevirtual index, 3)) (hG : GoodIn Ts (wsV own index Cn y ws)) (hw : ws = Cond.code y bytes maxL ret' :: ws') (hd : y.cls = Cn ∧ y.cls ≠ "java/lang/invoke/MethodHandle" ∧ y.cls ≠ "java/lang/invoke/VarHandle" ∧ (parseMethodDescriptor y.desc).map (fun d => d.parameters.length) = some As.length) (hR : rm.frames + 1 ≤ R.frames ∧ 8 + (maxL + 11) + rm.locals ≤ R.locals) (hrc : rm.cells = 0) (hrs : rm.slots = 0) (hi : i < n2) (hf : f2 i = .inr (ci, fs)) (hc : cl[ci]? = some (Cn, T, N)) (hstk : As.reverse ++ .ref (q2 i) :: rest = stk) (hW : (rest.map fun v => v.category).sum ≤ 8) (hcs : cells ≤ R.cells ∧ slots ≤ R.slots) (kk : ∀ (x : Int64) (g : Nat → va_E), post x g → VV p l e R s m args below meth c Q cells slots cc nL own Ts D cl tys n1 q1 n2 q2 b L xs f1 g (pc + 3) lv (.long x :: rest)) : VV p l e R s m args below meth c Q cells slots cc nL own Ts D cl tys n1 q1 n2 q2 b L xs f1 f2 pc lv stk := by
  intro C H locs ls hP1 hP2 hS hl
  obtain ⟨hx, hb, hml, hown, hts, hK, hq, hA, hNW, hX, hbl, hL⟩ := id C
  have hAQ : ∀ a, AQ n2 q2 H.size a → s.heap.size ≤ a := fun a h => h.elim (fun ⟨i, hi, e⟩ => e ▸ hA.2 i hi) (fun h => Nat.le_trans hS.1 h)
  subst hstk
  exact va_calll (mc := 0) (ms := 0) (va_runV (As := As) (rest := rest) ⟨hx, hb, hml, hown, hts⟩ (hM H.size) (cwV As.length hts hG hw hrc hrs hd hR) ⟨fun a U g mk q => ⟨q.1, q.2.1, q.2.2.1, va_K.moved (u := U) (U := U.calling g mk a) (Vm.Alike.refl U.vm) q.2.2.2.1, NWs.same (u := U) (U := U.calling g mk a) rfl q.2.2.2.2⟩, va_recv hK hP2 (ci := ci) (q0 := i) hc (idW_at hi hf), fun U hU hW => ⟨rfl, by rw [hU], by rw [hU]; exact hP2, va_K.moved hW.alike hK, hNW.warm hW⟩⟩ rfl rfl hl.1 rfl (lv_room hW) hdg hcs) hS (fun a _ h => hAQ a h) hAQ (fun x g t H1 locs1 ht hvm hp hB hz hk hS1 => kk x g hp C H1 locs1 ls (other_kept (fun i j hi hj => (hq.2.2 j i hj hi).symm) hP1 hk) (by rw [← ht]; exact hB) hS1 hl)
end VL
