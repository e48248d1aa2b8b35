/-! the reference's reader, held against the machine -/
theorem wr_in {z : Int} (h : -2147483648 ≤ z ∧ z < 2147483648) : wr z = z := iI_toInt h
def RdM (σ0 : MS) (G : Nat → Int) (n : Int) (yi : Nat → Int) (ya : Nat → Nat → Int) : Prop := (0 ≤ yi 7 ∧ yi 7 ≤ n) ∧ (0 ≤ yi 9 ∧ yi 9 ≤ 16) ∧ (0 ≤ yi 8 ∧ yi 8 ≤ 3) ∧ ∃ st : Int, mrun σ0 G (yi 7).toNat = .inl (st, yi 8, yi 9, ya 5, ya 6, ya 7, ya 8) ∧ ((st = 2 ∧ yi 9 = 0) ∨ (st = 4 ∧ (yi 7 < n → G (yi 7).toNat ≠ 94)) ∨ st = 5)
def RdF (σ0 : MS) (G : Nat → Int) (n : Int) (yi : Nat → Int) : Prop := (0 ≤ yi 7 ∧ yi 7 ≤ n) ∧ ∀ τ : MS, mend σ0 G n.toNat (yi 7) τ
def MQ8 (ma : Nat → Nat → Int) : Prop := (∀ k : Nat, 0 ≤ ma 5 k ∧ ma 5 k ≤ 2) ∧ (∀ k : Nat, 0 ≤ ma 6 k ∧ ma 6 k ≤ 9) ∧ (∀ k : Nat, ma 7 k = 0 ∨ ma 7 k = 1) ∧ ∀ k : Nat, ma 8 k = 0 ∨ ma 8 k = 1
theorem fell_at {σ0 σ : MS} {G : Nat → Int} {n k : Int} (hk : 0 ≤ k ∧ k < n) (h : mrun σ0 G k.toNat = .inl σ) (hs : mstep (G k.toNat) σ = none) (τ : MS) : mend σ0 G n.toNat k τ := by
  have h1 := mrun_fell (mrun_none h hs) (n.toNat - (k.toNat + 1))
  rw [show k.toNat + 1 + (n.toNat - (k.toNat + 1)) = n.toNat by omega] at h1
  unfold mend
  rw [h1]
  show k = ((k.toNat : Nat) : Int)
  omega
theorem fell_end {σ0 σ : MS} {G : Nat → Int} {n k : Int} (hk : 0 ≤ k ∧ k = n) (h : mrun σ0 G k.toNat = .inl σ) (hs : ¬ ((σ.1 = 4 ∨ σ.1 = 5) ∧ 2 ≤ σ.2.2.1)) (τ : MS) : mend σ0 G n.toNat k τ := by
  rw [hk.2] at h ⊢
  unfold mend
  rw [h]
  exact Or.inr ⟨hs, by omega⟩
theorem end_at {σ0 σ : MS} {G : Nat → Int} {n k : Int} (hk : 0 ≤ k ∧ k = n) (h : mrun σ0 G k.toNat = .inl σ) (hs : (σ.1 = 4 ∨ σ.1 = 5) ∧ 2 ≤ σ.2.2.1) : mend σ0 G n.toNat (-9) σ := by
  rw [hk.2] at h
  unfold mend
  rw [h]
  exact Or.inl ⟨hs.1, hs.2, rfl, rfl⟩
theorem ml_none {c : Int} {σ : MS} (h : (c ≠ 99 ∧ c ≠ 100 ∧ c ≠ 103 ∧ c ≠ 109) ∨ ¬ σ.2.2.1 < 16) : mletter c σ = none := by
  obtain ⟨t, p, n, K, M, D, B⟩ := σ
  rcases h with ⟨h1, h2, h3, h4⟩ | h
  · unfold mletter
    rw [if_neg h1, if_neg h2, if_neg h3, if_neg h4]
  · have hc : ∀ a b : Int, mcell a b (t, p, n, K, M, D, B) = none := fun a b => by
      unfold mcell
      exact if_neg h
    unfold mletter
    rw [hc, hc, hc, hc]
    split
    · rfl
    · split
      · rfl
      · split
        · rfl
        · split <;> rfl
theorem ms_letter {c : Int} {σ : MS} (hst : σ.1 = 2 ∨ (σ.1 = 4 ∧ c ≠ 94) ∨ σ.1 = 5) : mstep c σ = mletter c σ := by
  unfold mstep
  rw [if_neg (by omega), if_neg (by omega), if_neg (by omega)]
  by_cases h4 : σ.1 = 4
  · rw [if_pos h4, if_neg (by omega)]
  · rw [if_neg h4]
theorem rd_bad {σ0 : MS} {G : Nat → Int} {n : Int} {yi : Nat → Int} {ya : Nat → Nat → Int} (h : RdM σ0 G n yi ya) (hl : yi 9 < 2 ∨ yi 7 < n) (hb : yi 9 = 16 ∨ (yi 7 < n → G (yi 7).toNat ≠ 99 ∧ G (yi 7).toNat ≠ 100 ∧ G (yi 7).toNat ≠ 103 ∧ G (yi 7).toNat ≠ 109)) : RdF σ0 G n yi := by
  obtain ⟨h7, h9, h8, st, hm, hst⟩ := h
  refine ⟨h7, fun τ => ?_⟩
  by_cases hq : yi 7 < n
  · refine fell_at (by omega) hm ?_ τ
    rw [ms_letter ?_]
    · refine ml_none ?_
      rcases hb with hb | hb
      · refine Or.inr ?_
        show ¬ yi 9 < 16
        omega
      · exact Or.inl (hb hq)
    · show st = 2 ∨ (st = 4 ∧ G (yi 7).toNat ≠ 94) ∨ st = 5
      rcases hst with h | h | h
      · exact Or.inl h.1
      · exact Or.inr (Or.inl ⟨h.1, h.2 hq⟩)
      · exact Or.inr (Or.inr h)
  · refine fell_end (by omega) hm ?_ τ
    show ¬ ((st = 4 ∨ st = 5) ∧ 2 ≤ yi 9)
    omega
theorem rd_let {σ0 : MS} {G : Nat → Int} {n : Int} {yi : Nat → Int} {ya : Nat → Nat → Int} {kind deep : Int} (h : RdM σ0 G n yi ya) (hq : yi 7 < n) (h16 : yi 9 ≠ 16) (hc : (G (yi 7).toNat = 99 ∧ kind = 2 ∧ deep = 0) ∨ (G (yi 7).toNat = 100 ∧ kind = 0 ∧ deep = 1) ∨ (G (yi 7).toNat = 103 ∧ kind = 0 ∧ deep = 0) ∨ (G (yi 7).toNat = 109 ∧ kind = 1 ∧ deep = 0)) : mrun σ0 G (yi 7 + 1).toNat = .inl (if deep = 0 then 3 else 4, yi 8, yi 9 + 1, va_up (ya 5) (yi 9).toNat kind, va_up (ya 6) (yi 9).toNat 0, va_up (ya 7) (yi 9).toNat deep, va_up (ya 8) (yi 9).toNat 0) := by
  obtain ⟨h7, h9, h8, st, hm, hst⟩ := h
  rw [stepN h7.1]
  refine mrun_some hm ?_
  have hcl : ∀ a b : Int, mcell a b (st, yi 8, yi 9, ya 5, ya 6, ya 7, ya 8) = some (if b = 0 then 3 else 4, yi 8, yi 9 + 1, va_up (ya 5) (yi 9).toNat a, va_up (ya 6) (yi 9).toNat 0, va_up (ya 7) (yi 9).toNat b, va_up (ya 8) (yi 9).toNat 0) := fun a b => if_pos (by omega)
  rw [ms_letter ?_]
  · rw [← hcl]
    unfold mletter
    rcases hc with ⟨h1, h2, h3⟩ | ⟨h1, h2, h3⟩ | ⟨h1, h2, h3⟩ | ⟨h1, h2, h3⟩
    · rw [h1, h2, h3, if_pos rfl]
    · rw [h1, h2, h3, if_neg (by decide), if_pos rfl]
    · rw [h1, h2, h3, if_neg (by decide), if_neg (by decide), if_pos rfl]
    · rw [h1, h2, h3, if_neg (by decide), if_neg (by decide), if_neg (by decide), if_pos rfl]
  · show st = 2 ∨ (st = 4 ∧ G (yi 7).toNat ≠ 94) ∨ st = 5
    rcases hst with h | h | h
    · exact Or.inl h.1
    · exact Or.inr (Or.inl ⟨h.1, h.2 hq⟩)
    · exact Or.inr (Or.inr h)
theorem rd_mud {σ0 : MS} {G : Nat → Int} {k p m v : Int} {K M D B : Nat → Int} (hk : 0 ≤ k) (hm : mrun σ0 G k.toNat = .inl (3, p, m + 1, K, va_up M m.toNat 0, D, B)) (hv : wr (G k.toNat - 48) = v ∧ 0 ≤ v ∧ v ≤ 9) : mrun σ0 G (k + 1).toNat = .inl (4, p, m + 1, K, va_up M m.toNat v, D, B) := by
  rw [stepN hk]
  refine mrun_some hm ?_
  have e1 : mstep (G k.toNat) (3, p, m + 1, K, va_up M m.toNat 0, D, B) = mmud (wr (G k.toNat - 48)) (3, p, m + 1, K, va_up M m.toNat 0, D, B) := rfl
  rw [e1, hv.1]
  have e2 : mmud v (3, p, m + 1, K, va_up M m.toNat 0, D, B) = some (4, p, m + 1, K, va_up (va_up M m.toNat 0) (m + 1 - 1).toNat v, D, B) := if_pos hv.2
  rw [e2, show m + 1 - 1 = m by omega, bx_uu]
theorem rd_mudF {σ0 : MS} {G : Nat → Int} {n : Int} {yi : Nat → Int} {p m : Int} {K M D B : Nat → Int} (h7 : 0 ≤ yi 7 ∧ yi 7 ≤ n) (hm : mrun σ0 G (yi 7).toNat = .inl (3, p, m + 1, K, va_up M m.toNat 0, D, B)) (hv : yi 7 < n → ¬ (0 ≤ wr (G (yi 7).toNat - 48) ∧ wr (G (yi 7).toNat - 48) ≤ 9)) : RdF σ0 G n yi := by
  refine ⟨h7, fun τ => ?_⟩
  by_cases hq : yi 7 < n
  · refine fell_at (by omega) hm ?_ τ
    have e1 : mstep (G (yi 7).toNat) (3, p, m + 1, K, va_up M m.toNat 0, D, B) = mmud (wr (G (yi 7).toNat - 48)) (3, p, m + 1, K, va_up M m.toNat 0, D, B) := rfl
    rw [e1]
    exact if_neg (hv hq)
  · refine fell_end (by omega) hm ?_ τ
    show ¬ (((3 : Int) = 4 ∨ (3 : Int) = 5) ∧ 2 ≤ m + 1)
    omega
theorem rd_brid {σ0 : MS} {G : Nat → Int} {k p m : Int} {K M D B : Nat → Int} (hk : 0 ≤ k) (hm : mrun σ0 G k.toNat = .inl (4, p, m + 1, K, M, D, va_up B m.toNat 0)) (hc : G k.toNat = 94) : mrun σ0 G (k + 1).toNat = .inl (5, p, m + 1, K, M, D, va_up B m.toNat 1) := by
  rw [stepN hk]
  refine mrun_some hm ?_
  rw [hc]
  have e2 : mstep 94 (4, p, m + 1, K, M, D, va_up B m.toNat 0) = some (5, p, m + 1, K, M, D, va_up (va_up B m.toNat 0) (m + 1 - 1).toNat 1) := rfl
  rw [e2, show m + 1 - 1 = m by omega, bx_uu]
theorem rd_p {G : Nat → Int} {K M D B : Nat → Int} (hc : G 0 = 112) : mrun (0, 0, 0, K, M, D, B) G 1 = .inl (1, 0, 0, K, M, D, B) := by
  refine mrun_some (k := 0) rfl ?_
  rw [hc]
  rfl
theorem rd_pF {G : Nat → Int} {K M D B : Nat → Int} {n : Int} {yi : Nat → Int} (h0 : yi 7 = 0) (hn : 0 ≤ n) (hc : 0 < n → G 0 ≠ 112) : RdF (0, 0, 0, K, M, D, B) G n yi := by
  refine ⟨by omega, fun τ => ?_⟩
  rw [h0]
  by_cases hq : 0 < n
  · refine fell_at (k := 0) (by omega) (σ := (0, 0, 0, K, M, D, B)) rfl ?_ τ
    exact if_neg (hc hq)
  · refine fell_end (k := 0) (by omega) (σ := (0, 0, 0, K, M, D, B)) rfl ?_ τ
    show ¬ (((0 : Int) = 4 ∨ (0 : Int) = 5) ∧ 2 ≤ (0 : Int))
    omega
theorem rd_pace {G : Nat → Int} {K M D B : Nat → Int} {v : Int} (hm : mrun (0, 0, 0, K, M, D, B) G 1 = .inl (1, 0, 0, K, M, D, B)) (hv : wr (G 1 - 48) = v ∧ 0 ≤ v ∧ v ≤ 3) : mrun (0, 0, 0, K, M, D, B) G 2 = .inl (2, v, 0, K, M, D, B) := by
  refine mrun_some (k := 1) hm ?_
  have e1 : mstep (G 1) (1, 0, 0, K, M, D, B) = mpace (wr (G 1 - 48)) (1, 0, 0, K, M, D, B) := rfl
  rw [e1, hv.1]
  exact if_pos hv.2
theorem rd_paceF {G : Nat → Int} {K M D B : Nat → Int} {n : Int} {yi : Nat → Int} (h0 : yi 7 = 1) (hn : 1 ≤ n) (hm : mrun (0, 0, 0, K, M, D, B) G 1 = .inl (1, 0, 0, K, M, D, B)) (hv : 1 < n → ¬ (0 ≤ wr (G 1 - 48) ∧ wr (G 1 - 48) ≤ 3)) : RdF (0, 0, 0, K, M, D, B) G n yi := by
  refine ⟨by omega, fun τ => ?_⟩
  rw [h0]
  by_cases hq : 1 < n
  · refine fell_at (k := 1) (by omega) hm ?_ τ
    have e1 : mstep (G (1 : Int).toNat) (1, 0, 0, K, M, D, B) = mpace (wr (G 1 - 48)) (1, 0, 0, K, M, D, B) := rfl
    rw [e1]
    exact if_neg (hv hq)
  · refine fell_end (k := 1) (by omega) hm ?_ τ
    show ¬ (((1 : Int) = 4 ∨ (1 : Int) = 5) ∧ 2 ≤ (0 : Int))
    omega
theorem MQ8_up {ma : Nat → Nat → Int} {j : Nat} {a b c d : Int} (h : MQ8 ma) (ha : 0 ≤ a ∧ a ≤ 2) (hb : 0 ≤ b ∧ b ≤ 9) (hc : c = 0 ∨ c = 1) (hd : d = 0 ∨ d = 1) {ya : Nat → Nat → Int} (e5 : ya 5 = va_up (ma 5) j a) (e6 : ya 6 = va_up (ma 6) j b) (e7 : ya 7 = va_up (ma 7) j c) (e8 : ya 8 = va_up (ma 8) j d) : MQ8 ya := by
  unfold MQ8
  rw [e5, e6, e7, e8]
  exact ⟨up_rng h.1 ha, up_rng h.2.1 hb, up_bit h.2.2.1 hc, up_bit h.2.2.2 hd⟩
