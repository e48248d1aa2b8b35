theorem chkF_run {A : AV} {c s l i n u : Int} (h : (chkFor A c s l i n u).1 = 0) : (runA A s.toNat i n).2 = -9 := by
  have h0 := chkF_0in h
  have hw := run_wr (A := A) (j := s.toNat) (i := i) (nn := n) (by omega)
  unfold chkFor at h
  rw [if_neg (not_not_intro h0.1), if_neg (not_not_intro ⟨h0.2.1.1, h0.2.1.2.1, h0.2.1.2.2⟩), if_neg (not_not_intro h0.2.2)] at h
  by_cases hq : (runA A s.toNat i n).2 = -9
  · exact hq
  · rw [if_pos hq] at h
    have h2 : -100 - (runA A s.toNat i n).2 = 0 := h
    omega
theorem rvM_k {mi yi : Nat → Int} {ma ya : Nat → Nat → Int} {c : Nat} {u : Int} (h1 : yi 1 = mi 1) (hc : (c : Int) < mi 1) (hy : ∀ k, k ≠ 1 → ya k = ma k) (hy1 : ∀ k, k ≠ c → ya 1 k = ma 1 k) : rvM yi (va_up ya 1 (va_up (ya 1) c u)) = (mi 1, va_up (nrm (mi 1) (ma 1)) c u, nrm (mi 1) (ma 2), nrm (mi 1) (ma 3), nrm (mi 1) (ma 4)) := by
  have e : va_up (ya 1) c u = va_up (ma 1) c u := by
    funext k
    by_cases hk : k = c
    · rw [hk, up_s, up_s]
    · rw [up_n hk, up_n hk, hy1 k hk]
  unfold rvM
  rw [h1, up_s, up_n (show (2 : Nat) ≠ 1 by decide), hy 2 (by decide), up_n (show (3 : Nat) ≠ 1 by decide), hy 3 (by decide), up_n (show (4 : Nat) ≠ 1 by decide), hy 4 (by decide), e, nrm_up hc]
theorem MRv_k {mi yi : Nat → Int} {ma ya : Nat → Nat → Int} {c : Nat} {u : Int} (hR : MRv mi ma) (h1 : yi 1 = mi 1) (h2 : yi 2 = mi 2) (hu : 0 ≤ u ∧ u ≤ 2) (hy : ∀ k, k ≠ 1 → ya k = ma k) (hy1 : ∀ k, k ≠ c → ya 1 k = ma 1 k) : MRv yi (va_up ya 1 (va_up (ya 1) c u)) := by
  obtain ⟨g1, g2, g3, g4, g5, g6⟩ := hR
  have hup : ∀ k : Nat, 0 ≤ va_up (ya 1) c u k ∧ va_up (ya 1) c u k ≤ 2 := by
    intro k
    by_cases hk : k = c
    · rw [hk, up_s]; exact hu
    · rw [up_n hk, hy1 k hk]; exact g3 k
  unfold MRv
  rw [h1, h2, up_s, up_n (show (2 : Nat) ≠ 1 by decide), hy 2 (by decide), up_n (show (3 : Nat) ≠ 1 by decide), hy 3 (by decide), up_n (show (4 : Nat) ≠ 1 by decide), hy 4 (by decide)]
  exact ⟨g1, g2, hup, g4, g5, g6⟩
theorem back_k {ma ya : Nat → Nat → Int} {c : Nat} (hy : ∀ k, k ≠ 1 → ya k = ma k) (hy1 : ∀ k, k ≠ c → ya 1 k = ma 1 k) : va_up ya 1 (va_up (ya 1) c (ma 1 c)) = ma := by
  funext k
  by_cases hk : k = 1
  · rw [hk, up_s]
    funext j
    by_cases hj : j = c
    · rw [hj, up_s]
    · rw [up_n hj, hy1 j hj]
  · rw [up_n hk, hy k hk]
theorem rvM_m {mi yi : Nat → Int} {ma ya : Nat → Nat → Int} {c : Nat} {u : Int} (h1 : yi 1 = mi 1) (hc : (c : Int) < mi 1) (hy : ∀ k, k ≠ 2 → ya k = ma k) (hy1 : ∀ k, k ≠ c → ya 2 k = ma 2 k) : rvM yi (va_up ya 2 (va_up (ya 2) c u)) = (mi 1, nrm (mi 1) (ma 1), va_up (nrm (mi 1) (ma 2)) c u, nrm (mi 1) (ma 3), nrm (mi 1) (ma 4)) := by
  have e : va_up (ya 2) c u = va_up (ma 2) c u := by
    funext k
    by_cases hk : k = c
    · rw [hk, up_s, up_s]
    · rw [up_n hk, up_n hk, hy1 k hk]
  unfold rvM
  rw [h1, up_s, up_n (show (1 : Nat) ≠ 2 by decide), hy 1 (by decide), up_n (show (3 : Nat) ≠ 2 by decide), hy 3 (by decide), up_n (show (4 : Nat) ≠ 2 by decide), hy 4 (by decide), e, nrm_up hc]
theorem MRv_m {mi yi : Nat → Int} {ma ya : Nat → Nat → Int} {c : Nat} {u : Int} (hR : MRv mi ma) (h1 : yi 1 = mi 1) (h2 : yi 2 = mi 2) (hu : 0 ≤ u ∧ u ≤ 9) (hy : ∀ k, k ≠ 2 → ya k = ma k) (hy1 : ∀ k, k ≠ c → ya 2 k = ma 2 k) : MRv yi (va_up ya 2 (va_up (ya 2) c u)) := by
  obtain ⟨g1, g2, g3, g4, g5, g6⟩ := hR
  have hup : ∀ k : Nat, 0 ≤ va_up (ya 2) c u k ∧ va_up (ya 2) c u k ≤ 9 := by
    intro k
    by_cases hk : k = c
    · rw [hk, up_s]; exact hu
    · rw [up_n hk, hy1 k hk]; exact g4 k
  unfold MRv
  rw [h1, h2, up_s, up_n (show (1 : Nat) ≠ 2 by decide), hy 1 (by decide), up_n (show (3 : Nat) ≠ 2 by decide), hy 3 (by decide), up_n (show (4 : Nat) ≠ 2 by decide), hy 4 (by decide)]
  exact ⟨g1, g2, g3, hup, g5, g6⟩
theorem back_m {ma ya : Nat → Nat → Int} {c : Nat} (hy : ∀ k, k ≠ 2 → ya k = ma k) (hy1 : ∀ k, k ≠ c → ya 2 k = ma 2 k) : va_up ya 2 (va_up (ya 2) c (ma 2 c)) = ma := by
  funext k
  by_cases hk : k = 2
  · rw [hk, up_s]
    funext j
    by_cases hj : j = c
    · rw [hj, up_s]
    · rw [up_n hj, hy1 j hj]
  · rw [up_n hk, hy k hk]
theorem runM_km {mi : Nat → Int} {ma : Nat → Nat → Int} {z i nn : Int} (ha : ∀ k : Nat, (k : Int) < nn → actG (vM mi ma) z.toNat i k = ma 16 ((60 * z + i).toNat + k)) {K M : Nat → Int} {t : Nat} (ht : (t : Int) ≤ nn) : runS ((mi 1, K, M, nrm (mi 1) (ma 3), nrm (mi 1) (ma 4)) : Rv) (fun k => ma 16 ((60 * z + i).toNat + k)) (mi 2) t = runS (aR (vM mi ma)) (actG (vM mi ma) z.toNat i) (aP (vM mi ma)) t := by
  rw [← runM ha ht]
  exact runS_km t
theorem bi_and2 {u v : Int} {a b : Nat} (hu : u = (a : Int)) (hv : v = (b : Int)) : iI u &&& iI v = iI ((a &&& b : Nat) : Int) := by
  rw [hu, hv]
  exact bi_and a b
/-! sets apart from a set -/
def apN (m : Nat) : Nat → Nat
  | 0 => 0
  | k + 1 => apN m k + (if k &&& m = 0 then 1 else 0)
def popL (m : Nat) : Nat → Nat
  | 0 => 0
  | k + 1 => m % 2 + popL (m / 2) k
theorem and_z {x y : Nat} : x &&& y = 0 ↔ (x / 2 &&& y / 2 = 0) ∧ ¬ (x % 2 = 1 ∧ y % 2 = 1) := by
  have h1 : (x &&& y) / 2 = x / 2 &&& y / 2 := Nat.and_div_two
  have h2 : (x &&& y) % 2 = 1 ↔ x % 2 = 1 ∧ y % 2 = 1 := Nat.and_mod_two_eq_one
  rw [← h1, ← h2]
  omega
theorem apN_two (m : Nat) : ∀ N : Nat, apN m (2 * N) = (if m % 2 = 1 then 1 else 2) * apN (m / 2) N
  | 0 => rfl
  | N + 1 => by
    have e0 : (2 * N &&& m = 0) ↔ (N &&& m / 2 = 0) := by
      rw [and_z, show 2 * N / 2 = N by omega]
      exact ⟨fun h => h.1, fun h => ⟨h, by omega⟩⟩
    have e1 : (2 * N + 1 &&& m = 0) ↔ (N &&& m / 2 = 0) ∧ ¬ m % 2 = 1 := by
      rw [and_z, show (2 * N + 1) / 2 = N by omega]
      exact ⟨fun h => ⟨h.1, fun q => h.2 ⟨by omega, q⟩⟩, fun h => ⟨h.1, fun q => h.2 q.2⟩⟩
    rw [show 2 * (N + 1) = 2 * N + 1 + 1 by omega, apN, apN, apN_two m N, apN]
    by_cases hb : N &&& m / 2 = 0
    · by_cases ho : m % 2 = 1
      · rw [if_pos ho, if_pos (e0.mpr hb), if_neg (fun q => (e1.mp q).2 ho), if_pos hb]; omega
      · rw [if_neg ho, if_pos (e0.mpr hb), if_pos (e1.mpr ⟨hb, ho⟩), if_pos hb]; omega
    · by_cases ho : m % 2 = 1
      · rw [if_pos ho, if_neg (fun q => hb (e0.mp q)), if_neg (fun q => hb (e1.mp q).1), if_neg hb]; omega
      · rw [if_neg ho, if_neg (fun q => hb (e0.mp q)), if_neg (fun q => hb (e1.mp q).1), if_neg hb]; omega
theorem popL_le : ∀ (n m : Nat), popL m n ≤ n
  | 0, _ => Nat.le_refl 0
  | n + 1, m => by
    have := popL_le n (m / 2)
    rw [popL]
    omega
theorem apN_pow : ∀ (n m : Nat), apN m (2 ^ n) = 2 ^ (n - popL m n)
  | 0, m => by
    show (0 + if 0 &&& m = 0 then 1 else 0) = 2 ^ (0 - 0)
    rw [Nat.zero_and, if_pos rfl]
  | n + 1, m => by
    have hl := popL_le n (m / 2)
    rw [Nat.pow_succ, Nat.mul_comm, apN_two, apN_pow n (m / 2), popL]
    by_cases ho : m % 2 = 1
    · rw [if_pos ho, ho, show n + 1 - (1 + popL (m / 2) n) = n - popL (m / 2) n by omega, Nat.one_mul]
    · rw [if_neg ho, show m % 2 = 0 by omega, show n + 1 - (0 + popL (m / 2) n) = (n - popL (m / 2) n) + 1 by omega, Nat.pow_succ, Nat.mul_comm]
theorem popL_16 (m : Nat) : popL m 16 = popN m := by
  unfold popN
  simp only [popL, Nat.div_div_eq_div_mul, Nat.reduceMul, Nat.add_assoc, Nat.add_zero]
theorem popL_0 : ∀ (n : Nat), popL 0 n = 0
  | 0 => rfl
  | n + 1 => by rw [popL, Nat.zero_div, popL_0 n]
theorem popL_ext : ∀ (d n m : Nat), m < 2 ^ n → popL m (n + d) = popL m n
  | d, 0, m, h => by
    rw [Nat.pow_zero] at h
    rw [show m = 0 by omega, popL_0, popL_0]
  | d, n + 1, m, h => by
    rw [Nat.pow_succ] at h
    rw [show n + 1 + d = (n + d) + 1 by omega, popL, popL, popL_ext d n (m / 2) (by omega)]
theorem popL_n {m n : Nat} (hn : n ≤ 16) (h : m < 2 ^ n) : popL m n = popN m := by
  rw [← popL_16, ← popL_ext (16 - n) n m h, show n + (16 - n) = 16 by omega]
theorem polM_lt2 {g cs : Nat → Int} {n : Nat} : ∀ t : Nat, (∀ k : Nat, k < t → 0 ≤ cs k ∧ cs k < (n : Int)) → polM g cs t < 2 ^ n
  | 0, _ => by show 0 < 2 ^ n; exact Nat.pow_pos (by decide)
  | t + 1, h => by
    have ih := polM_lt2 (g := g) t (fun k hk => h k (by omega))
    rw [polM]
    split
    · exact Nat.or_lt_two_pow ih (Nat.pow_lt_pow_right (by decide) (by have := h t (by omega); omega))
    · exact ih
theorem told_pow {n k : Nat} (h : k ≤ n) {wh : Int} : (if wh = 0 then ((2 ^ (n - k) : Nat) : Int) else ((2 ^ n : Nat) : Int)) / (Int.gcd ((2 ^ (n - k) : Nat) : Int) ((2 ^ n : Nat) : Int) : Int) = if wh = 0 then 1 else 2 ^ k := by
  have hp : 0 < 2 ^ (n - k) := Nat.pow_pos (by decide)
  have e : 2 ^ n = 2 ^ (n - k) * 2 ^ k := by rw [← Nat.pow_add, show n - k + k = n by omega]
  have hg : Int.gcd ((2 ^ (n - k) : Nat) : Int) ((2 ^ n : Nat) : Int) = 2 ^ (n - k) := by
    show Nat.gcd (Int.natAbs ((2 ^ (n - k) : Nat) : Int)) (Int.natAbs ((2 ^ n : Nat) : Int)) = _
    rw [Int.natAbs_natCast, Int.natAbs_natCast, e, Nat.gcd_mul_right_right]
  rw [hg]
  by_cases hw : wh = 0
  · rw [if_pos hw, if_pos hw]
    exact Int.ediv_self (by omega)
  · rw [if_neg hw, if_neg hw, e]
    show (((2 ^ (n - k) * 2 ^ k : Nat) : Int)) / ((2 ^ (n - k) : Nat) : Int) = 2 ^ k
    rw [← Int.natCast_ediv, Nat.mul_div_cancel_left _ hp, Int.natCast_pow]
    rfl
theorem chkF_f {A : AV} {c s l i n u : Int} : 0 ≤ (chkFor A c s l i n u).2 ∧ (chkFor A c s l i n u).2 ≤ 4 := by
  unfold chkFor
  split
  · decide
  · split
    · decide
    · split
      · exact chkA_f
      · split
        · show (0 : Int) ≤ 0 ∧ (0 : Int) ≤ 4
          omega
        · decide
theorem vM_pl {mi yi : Nat → Int} {ma : Nat → Nat → Int} {v : Int} (hf : ∀ k, k ≠ 0 → k ≠ 14 → k ≠ 15 → k ≠ 16 → k ≠ 17 → k ≠ 18 → yi k = mi k) (h0 : yi 0 = v) : vM yi ma = sFa (vM mi ma) v := by
  have hd : ∀ k, k ≠ 0 → (k < 14 ∨ 18 < k) → yi k = mi k := fun k h1 h2 => hf k h1 (by omega) (by omega) (by omega) (by omega) (by omega)
  rw [vM_fr (mi := mi) (ma := ma) (hd 1 (by decide) (by decide)) (hd 2 (by decide) (by decide)) (hd 22 (by decide) (by decide)) (fun _ _ => rfl), hd 29 (by decide) (by decide), h0]
  rfl
theorem MOk_pl {mi yi : Nat → Int} {ma : Nat → Nat → Int} (hO : MOk mi ma) (hf : ∀ k, k ≠ 0 → k ≠ 14 → k ≠ 15 → k ≠ 16 → k ≠ 17 → k ≠ 18 → yi k = mi k) (h0 : 0 ≤ yi 0 ∧ yi 0 ≤ 4) : MOk yi ma := by
  have hd : ∀ k, k ≠ 0 → (k < 14 ∨ 18 < k) → yi k = mi k := fun k h1 h2 => hf k h1 (by omega) (by omega) (by omega) (by omega) (by omega)
  exact MOk_fr hO (hd 1 (by decide) (by decide)) (hd 2 (by decide) (by decide)) (hd 22 (by decide) (by decide)) (fun _ _ => rfl) h0
