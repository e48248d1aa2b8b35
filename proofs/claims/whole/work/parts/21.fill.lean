set_option maxHeartbeats 4000000 in
theorem c_J7_fill_53178 {l : Launch} {D : va_G} {cI cJ cZ cR : ClassId} {n : Nat} {q : Nat → Nat} {f : Nat → va_E} (hq : qOk n q) {a N : Nat} {g : Nat → Int} {v : Int} (ha : a < n) (hN : N < 2147483648) (hf : f a = .inl (cI, N, .inl (fun k => iI (g k)))) : Ctv l D vwCl (tysC cI cJ cZ cR) n q yJ7_fill_53178 wsJ7_fill_53178 ({ frames := 0, cells := 0, slots := 0, locals := 0 } : Room) [.ref (q a), .int (iI v)] f (fun (f' : Nat → va_E) => ∃ G : Nat → Int, ((∀ k : Nat, k < N → G k = v) ∧ ∀ k : Nat, N ≤ k → G k = g k) ∧ f' = (va_up f a (.inl (cI, N, .inl (fun k => iI (G k)))))) := by
  refine Ctv.of (cc := cJ7_fill_53178) (nL := 4) (own := RJ7) (ret := none) (by decide) rfl rfl hq (Nat.le_of_ble_eq_true rfl) (fun p e s m args below meth c => ?_)
  refine z_iconst dJ7_fill_53178_0 ?_
  refine z_istore_n [(2, .int (iI 0)), (0, .ref (q a)), (1, .int (iI v))] dJ7_fill_53178_1 rfl (by decide) rfl ?_
  refine z_aload_n (j := 1) dJ7_fill_53178_2 rfl rfl ?_
  refine z_alen (i := a) 0 dJ7_fill_53178_3 ha hf rfl ?_
  refine z_istore_n [(3, .int (iI (N : Nat))), (2, .int (iI 0)), (0, .ref (q a)), (1, .int (iI v))] dJ7_fill_53178_4 rfl (by decide) rfl ?_
  have hl : ∀ (M : Nat) (i : Int) (G : Nat → Int), (N - i).toNat < M → (0 ≤ i ∧ i ≤ N) → (∀ k : Nat, (k : Int) < i → G k = v) → (∀ k : Nat, N ≤ k → G k = g k) → ZMv l D vwCl (tysC cI cJ cZ cR) n q ({ frames := 0, cells := 0, slots := 0, locals := 0 } : Room) cJ7_fill_53178 4 RJ7 wsJ7_fill_53178 none (fun (f' : Nat → va_E) => ∃ G : Nat → Int, ((∀ k : Nat, k < N → G k = v) ∧ ∀ k : Nat, N ≤ k → G k = g k) ∧ f' = (va_up f a (.inl (cI, N, .inl (fun k => iI (G k)))))) p e s m args below meth c (va_up f a (.inl (cI, N, .inl (fun k => iI (G k))))) 5 [(2, .int (iI i)), (3, .int (iI (N : Nat))), (0, .ref (q a)), (1, .int (iI v))] [] := by
    intro M
    induction M with
    | zero => intro i G hm; exact absurd hm (Nat.not_lt_zero _)
    | succ M ih =>
      intro i G hm h1 h2 h3
      refine z_iload_n (j := 0) dJ7_fill_53178_5 rfl rfl ?_
      refine z_iload_n (j := 1) dJ7_fill_53178_6 rfl rfl ?_
      refine z_icmp_ge (tgt := 20) dJ7_fill_53178_7 (by decide) (by omega) (by omega) (fun c_1 => ?_) (fun c_1 => ?_)
      · exact z_vret dJ7_fill_53178_20 ⟨G, ⟨fun k hk => h2 k (by omega), h3⟩, rfl⟩
      · refine z_aload_n (j := 2) dJ7_fill_53178_10 rfl rfl ?_
        refine z_iload_n (j := 0) dJ7_fill_53178_11 rfl rfl ?_
        refine z_iload_n (j := 3) dJ7_fill_53178_12 rfl rfl ?_
        refine z_iast (i := a) (g := G) 0 (va_up f a (.inl (cI, N, .inl (fun k => iI ((va_up G i.toNat v) k))))) dJ7_fill_53178_13 ha up_s rfl (by omega) (by omega) (by omega) (bx_uu _ _ _ _) ?_
        refine z_iinc (j := 0) [(2, .int (iI (i + 1))), (3, .int (iI (N : Nat))), (0, .ref (q a)), (1, .int (iI v))] dJ7_fill_53178_14 rfl (by decide) rfl ?_
        refine z_goto (tgt := 5) dJ7_fill_53178_17 (by decide) ?_
        refine ih (i + 1) (va_up G i.toNat v) (by omega) (by omega) (fun k hk => ?_) (fun k hk => by rw [up_n (by omega)]; exact h3 k hk)
        by_cases hki : k = i.toNat
        · rw [hki, up_s]
        · rw [up_n hki]; exact h2 k (by omega)
  refine z_mem (g := (va_up f a (.inl (cI, N, .inl (fun k => iI (g k)))))) (by rw [← hf, up_id]) ?_
  exact z_sub [(2, .int (iI 0)), (3, .int (iI (N : Nat))), (0, .ref (q a)), (1, .int (iI v))] [1, 0, 2, 3] rfl (hl _ 0 g (Nat.lt_succ_self _) (by omega) (fun k hk => absurd hk (by omega)) (fun _ _ => rfl))
set_option maxHeartbeats 4000000 in
theorem c_J7_fill_d0a16 {l : Launch} {D : va_G} {cI cJ cZ cR : ClassId} {n : Nat} {q : Nat → Nat} {f : Nat → va_E} (hq : qOk n q) {a N : Nat} {g : Nat → Int} {v : Int} (ha : a < n) (hN : N < 2147483648) (hf : f a = .inl (cJ, N, .inr (.inl (fun k => lI (g k))))) : Ctv l D vwCl (tysC cI cJ cZ cR) n q yJ7_fill_d0a16 wsJ7_fill_d0a16 ({ frames := 0, cells := 0, slots := 0, locals := 0 } : Room) [.ref (q a), .long (lI v)] f (fun (f' : Nat → va_E) => ∃ G : Nat → Int, ((∀ k : Nat, k < N → G k = v) ∧ ∀ k : Nat, N ≤ k → G k = g k) ∧ f' = (va_up f a (.inl (cJ, N, .inr (.inl (fun k => lI (G k))))))) := by
  refine Ctv.of (cc := cJ7_fill_d0a16) (nL := 5) (own := RJ7) (ret := none) (by decide) rfl rfl hq (Nat.le_of_ble_eq_true rfl) (fun p e s m args below meth c => ?_)
  refine z_iconst dJ7_fill_d0a16_0 ?_
  refine z_istore_n [(3, .int (iI 0)), (0, .ref (q a)), (1, .long (lI v))] dJ7_fill_d0a16_1 rfl (by decide) rfl ?_
  refine z_aload_n (j := 1) dJ7_fill_d0a16_2 rfl rfl ?_
  refine z_alen (i := a) 1 dJ7_fill_d0a16_3 ha hf rfl ?_
  refine z_istore [(4, .int (iI (N : Nat))), (3, .int (iI 0)), (0, .ref (q a)), (1, .long (lI v))] dJ7_fill_d0a16_4 (by decide) rfl ?_
  have hl : ∀ (M : Nat) (i : Int) (G : Nat → Int), (N - i).toNat < M → (0 ≤ i ∧ i ≤ N) → (∀ k : Nat, (k : Int) < i → G k = v) → (∀ k : Nat, N ≤ k → G k = g k) → ZMv l D vwCl (tysC cI cJ cZ cR) n q ({ frames := 0, cells := 0, slots := 0, locals := 0 } : Room) cJ7_fill_d0a16 5 RJ7 wsJ7_fill_d0a16 none (fun (f' : Nat → va_E) => ∃ G : Nat → Int, ((∀ k : Nat, k < N → G k = v) ∧ ∀ k : Nat, N ≤ k → G k = g k) ∧ f' = (va_up f a (.inl (cJ, N, .inr (.inl (fun k => lI (G k))))))) p e s m args below meth c (va_up f a (.inl (cJ, N, .inr (.inl (fun k => lI (G k)))))) 6 [(3, .int (iI i)), (4, .int (iI (N : Nat))), (0, .ref (q a)), (1, .long (lI v))] [] := by
    intro M
    induction M with
    | zero => intro i G hm; exact absurd hm (Nat.not_lt_zero _)
    | succ M ih =>
      intro i G hm h1 h2 h3
      refine z_iload_n (j := 0) dJ7_fill_d0a16_6 rfl rfl ?_
      refine z_iload (j := 1) dJ7_fill_d0a16_7 rfl ?_
      refine z_icmp_ge (tgt := 22) dJ7_fill_d0a16_9 (by decide) (by omega) (by omega) (fun c_1 => ?_) (fun c_1 => ?_)
      · exact z_vret dJ7_fill_d0a16_22 ⟨G, ⟨fun k hk => h2 k (by omega), h3⟩, rfl⟩
      · refine z_aload_n (j := 2) dJ7_fill_d0a16_12 rfl rfl ?_
        refine z_iload_n (j := 0) dJ7_fill_d0a16_13 rfl rfl ?_
        refine z_lload_n (j := 3) dJ7_fill_d0a16_14 rfl rfl ?_
        refine z_last (i := a) (g := G) 1 (va_up f a (.inl (cJ, N, .inr (.inl (fun k => lI ((va_up G i.toNat v) k)))))) dJ7_fill_d0a16_15 ha up_s rfl (by omega) (by omega) (by omega) (bx_uu _ _ _ _) ?_
        refine z_iinc (j := 0) [(3, .int (iI (i + 1))), (4, .int (iI (N : Nat))), (0, .ref (q a)), (1, .long (lI v))] dJ7_fill_d0a16_16 rfl (by decide) rfl ?_
        refine z_goto (tgt := 6) dJ7_fill_d0a16_19 (by decide) ?_
        refine ih (i + 1) (va_up G i.toNat v) (by omega) (by omega) (fun k hk => ?_) (fun k hk => by rw [up_n (by omega)]; exact h3 k hk)
        by_cases hki : k = i.toNat
        · rw [hki, up_s]
        · rw [up_n hki]; exact h2 k (by omega)
  refine z_mem (g := (va_up f a (.inl (cJ, N, .inr (.inl (fun k => lI (g k))))))) (by rw [← hf, up_id]) ?_
  exact z_sub [(3, .int (iI 0)), (4, .int (iI (N : Nat))), (0, .ref (q a)), (1, .long (lI v))] [1, 0, 2, 3] rfl (hl _ 0 g (Nat.lt_succ_self _) (by omega) (fun k hk => absurd hk (by omega)) (fun _ _ => rfl))
