section ZN
variable {p : Program} {l : Launch} {e : Env} {R : Room} {s : State} {m : MethodId} {args : Array Value} {below : List Frame} {meth : Method} {c : Code} {Q : State → Prop} {cells slots : Nat} {cc : ByteArray} {nL : Nat} {own : String} {Ts : List Cond} {D : va_G} {cl : List vw_C} {tys : List (ClassId × FieldType)} {n : Nat} {q : Nat → Nat} {A : Nat → Prop} {ret : Option FieldType}
variable {f : Nat → va_E} {pc : Nat} {lv : List (Nat × Value)} {st : List Value}
theorem z_aload_nN {k : Fin 4} {i j : Nat} (hdg : decode cc pc = .ok (.aload_n k, 1)) (hi : (k : Nat) = i) (hj : lv[j]? = some (i, .null)) (kk : Z p l e R s m args below meth c Q cells slots cc nL own Ts D cl tys n q A ret f (pc + 1) lv (.null :: st)) : Z p l e R s m args below meth c Q cells slots cc nL own Ts D cl tys n q A ret f pc lv (st) := by
  intro C H locs ls hP hS hl
  obtain ⟨hx, hb, hml, hown, hts, hK, hq, hA, hN, hr, hlk, hNW⟩ := id C
  exact lv_aload_nN hx hb hdg hi (lv_at hl j hj) (kk C H locs ls hP hS hl)
theorem z_aloadN {i j : Nat} (hdg : decode cc pc = .ok (.aload i, 2)) (hj : lv[j]? = some (i, .null)) (kk : Z p l e R s m args below meth c Q cells slots cc nL own Ts D cl tys n q A ret f (pc + 2) lv (.null :: st)) : Z p l e R s m args below meth c Q cells slots cc nL own Ts D cl tys n q A ret f pc lv (st) := by
  intro C H locs ls hP hS hl
  obtain ⟨hx, hb, hml, hown, hts, hK, hq, hA, hN, hr, hlk, hNW⟩ := id C
  exact lv_aloadN hx hb hdg (lv_at hl j hj) (kk C H locs ls hP hS hl)
theorem z_astore_nN {k : Fin 4} {i : Nat} (lv' : List (Nat × Value)) (hdg : decode cc pc = .ok (.astore_n k, 1)) (hi : (k : Nat) = i) (hn : i < nL) (hl' : (i, Value.null) :: lv.filter (fun q => !(q.1 == i) && !(q.1 + 1 == i && q.2.category == 2)) = lv') (kk : Z p l e R s m args below meth c Q cells slots cc nL own Ts D cl tys n q A ret f (pc + 1) lv' (st)) : Z p l e R s m args below meth c Q cells slots cc nL own Ts D cl tys n q A ret f pc lv (.null :: st) := by
  intro C H locs ls hP hS hl
  obtain ⟨hx, hb, hml, hown, hts, hK, hq, hA, hN, hr, hlk, hNW⟩ := id C
  exact lv_astore_nN (lv' := lv') hx hb hdg hi hl hn hl' (fun ls2 hl2 => kk C H locs ls2 hP hS hl2)
theorem z_astoreN {i : Nat} (lv' : List (Nat × Value)) (hdg : decode cc pc = .ok (.astore i, 2)) (hn : i < nL) (hl' : (i, Value.null) :: lv.filter (fun q => !(q.1 == i) && !(q.1 + 1 == i && q.2.category == 2)) = lv') (kk : Z p l e R s m args below meth c Q cells slots cc nL own Ts D cl tys n q A ret f (pc + 2) lv' (st)) : Z p l e R s m args below meth c Q cells slots cc nL own Ts D cl tys n q A ret f pc lv (.null :: st) := by
  intro C H locs ls hP hS hl
  obtain ⟨hx, hb, hml, hown, hts, hK, hq, hA, hN, hr, hlk, hNW⟩ := id C
  exact lv_astoreN (lv' := lv') hx hb hdg hl hn hl' (fun ls2 hl2 => kk C H locs ls2 hP hS hl2)
theorem z_asref {a : Nat} (kk : Z p l e R s m args below meth c Q cells slots cc nL own Ts D cl tys n q A ret f pc lv (.ref a :: st)) : Z p l e R s m args below meth c Q cells slots cc nL own Ts D cl tys n q A ret f pc lv (va_rf (some a) :: st) := kk
theorem z_asnull (kk : Z p l e R s m args below meth c Q cells slots cc nL own Ts D cl tys n q A ret f pc lv (.null :: st)) : Z p l e R s m args below meth c Q cells slots cc nL own Ts D cl tys n q A ret f pc lv (va_rf none :: st) := kk
theorem cpy_iI (f g : Nat → Int) (a b n : Nat) : va_cpy (fun k => iI (f k)) (fun k => iI (g k)) a b n = fun k => iI (cpyN f g a b n k) := by
  funext k
  unfold va_cpy cpyN
  by_cases h : b ≤ k ∧ k < b + n
  · rw [if_pos h, if_pos h]
  · rw [if_neg h, if_neg h]
theorem z_copyi {i1 i2 : Nat} {c1 : ClassId} {n1 n2 : Nat} {g1 g2 : Nat → Int} {sp dp k : Int} {index : Nat} (t0 : Nat) (g : Nat → va_E) (hdg : decode cc pc = .ok (.invokestatic index, 3)) (h1 : Cond.methodLink own index arraycopyName ∈ Ts) (h2 : Cond.native arraycopyName ∈ Ts) (h3 : Cond.static arraycopyName ∈ Ts) (h4 : Cond.initialized "java/lang/System" ∈ Ts) (hi1 : i1 < n) (hi2 : i2 < n) (hf1 : f i1 = .inl (c1, n1, .inl (fun k => iI (g1 k)))) (hf2 : f i2 = .inl (c1, n2, .inl (fun k => iI (g2 k)))) (ht : tys[t0]? = some (c1, .int)) (hsp : 0 ≤ sp ∧ sp < 2147483648) (hdp : 0 ≤ dp ∧ dp < 2147483648) (hk : 0 ≤ k ∧ k < 2147483648) (hb1 : sp + k ≤ n1) (hb2 : dp + k ≤ n2) (hfr : 1 ≤ R.frames) (hlo : (st.map fun v => v.category).sum + (nativeFrameWords "java/lang/System" "arraycopy" 5 + 11) ≤ R.locals) (hg : va_up f i2 (.inl (c1, n2, .inl (fun x => iI (cpyN g1 g2 sp.toNat dp.toNat k.toNat x)))) = g) (kk : Z p l e R s m args below meth c Q cells slots cc nL own Ts D cl tys n q A ret g (pc + 3) lv (st)) : Z p l e R s m args below meth c Q cells slots cc nL own Ts D cl tys n q A ret f pc lv (.int (iI k) :: .int (iI dp) :: .ref (q i2) :: .int (iI sp) :: .ref (q i1) :: st) := by
  intro C H locs ls hP hS hl
  obtain ⟨hx, hb, hml, hown, hts, hK, hq, hA, hN, hr, hlk, hNW⟩ := id C
  subst hg
  have e1 : (iI sp).toNatClampNeg = sp.toNat := iI_nat (by omega)
  have e2 : (iI dp).toNatClampNeg = dp.toNat := iI_nat (by omega)
  have e3 : (iI k).toNatClampNeg = k.toNat := iI_nat (by omega)
  exact va_copyi hx hb (hml.trans hl.1.symm) hown (hts _ h1) (hts _ h2) (hts _ h3) (hts _ h4) hK hP (idW_D hq hA) hS i1 i2 t0 t0 (idW_at hi1 hf1) (idW_at hi2 hf2) ht ht rfl (fun h => by have := (iI_lt0 (by omega)).mp h; omega) (fun h => by have := (iI_lt0 (by omega)).mp h; omega) (fun h => by have := (iI_lt0 (by omega)).mp h; omega) (by rw [e1, e3]; omega) (by rw [e2, e3]; omega) (fun _ _ => rfl) hfr hlo hdg (fun H1 locs1 hP1 _ hS1 => kk C H1 locs1 ls (by rw [← idW_set hi2, ← cpy_iI, ← e1, ← e2, ← e3]; exact hP1) hS1 hl)
end ZN
theorem nfw40 : nativeFrameWords "java/lang/System" "arraycopy" 5 + 11 ≤ 40 := by decide
