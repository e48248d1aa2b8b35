/-! the search, by sets of spots -/
def stp (R : Rv) (s j : Nat) : Prop := ∃ b : Nat, b < 4 ∧ aftA R (b : Int) (s : Int) = (j : Int)
def rch (R : Rv) (p : Int) (t j : Nat) : Prop := (itM R (2 ^ p.toNat) t).testBit j = true
def cum (R : Rv) (p : Int) (t j : Nat) : Prop := ∃ i : Nat, i ≤ t ∧ rch R p i j
theorem emk_bit {R : Rv} {s : Nat} {j : Nat} (hn : rN R ≤ 16) : ∀ a : Nat, (emk R (s : Int) a).testBit j = true ↔ ∃ b : Nat, b < a ∧ aftA R (b : Int) (s : Int) = (j : Int)
  | 0 => by
    rw [emk, Nat.zero_testBit]
    exact ⟨fun h => absurd h (by decide), fun ⟨b, h, _⟩ => absurd h (by omega)⟩
  | a + 1 => by
    have ih := emk_bit (s := s) (j := j) hn a
    have hr := aftA_rng (act := (a : Int)) (s := (s : Int)) hn (by omega)
    rw [emk]
    by_cases h : aftA R (a : Int) (s : Int) = -1
    · rw [if_pos h, ih]
      constructor
      · rintro ⟨b, h1, h2⟩
        exact ⟨b, by omega, h2⟩
      · rintro ⟨b, h1, h2⟩
        by_cases hb : b = a
        · rw [hb, h] at h2
          exact absurd h2 (by omega)
        · exact ⟨b, by omega, h2⟩
    · rw [if_neg h, Nat.testBit_or, Bool.or_eq_true, ih, Nat.testBit_two_pow, decide_eq_true_eq]
      constructor
      · rintro (⟨b, h1, h2⟩ | h2)
        · exact ⟨b, by omega, h2⟩
        · exact ⟨a, by omega, by omega⟩
      · rintro ⟨b, h1, h2⟩
        by_cases hb : b = a
        · rw [hb] at h2
          exact Or.inr (by omega)
        · exact Or.inl ⟨b, by omega, h2⟩
theorem akm_bit {R : Rv} {mm j : Nat} (hn : rN R ≤ 16) : ∀ k : Nat, (akm R mm k).testBit j = true ↔ ∃ s : Nat, s < k ∧ mm.testBit s = true ∧ stp R s j
  | 0 => by
    rw [akm, Nat.zero_testBit]
    exact ⟨fun h => absurd h (by decide), fun ⟨b, h, _⟩ => absurd h (by omega)⟩
  | k + 1 => by
    have ih := akm_bit (mm := mm) (j := j) hn k
    rw [akm]
    by_cases h : mm.testBit k = true
    · rw [if_pos h, Nat.testBit_or, Bool.or_eq_true, ih, emk_bit hn]
      constructor
      · rintro (⟨s, h1, h2⟩ | h2)
        · exact ⟨s, by omega, h2⟩
        · exact ⟨k, by omega, h, h2⟩
      · rintro ⟨s, h1, h2, h3⟩
        by_cases hb : s = k
        · rw [hb] at h3
          exact Or.inr h3
        · exact Or.inl ⟨s, by omega, h2, h3⟩
    · rw [if_neg h, ih]
      constructor
      · rintro ⟨s, h1, h2⟩
        exact ⟨s, by omega, h2⟩
      · rintro ⟨s, h1, h2, h3⟩
        by_cases hb : s = k
        · rw [hb] at h2
          exact absurd h2 h
        · exact ⟨s, by omega, h2, h3⟩
theorem rch_succ {R : Rv} {p : Int} {t j : Nat} (hn : rN R ≤ 16) : rch R p (t + 1) j ↔ ∃ s : Nat, (s : Int) < 4 * rN R ∧ rch R p t s ∧ stp R s j := by
  show (akm R (itM R (2 ^ p.toNat) t) (4 * rN R).toNat).testBit j = true ↔ _
  rw [akm_bit hn]
  constructor
  · rintro ⟨s, h1, h2⟩
    exact ⟨s, by omega, h2⟩
  · rintro ⟨s, h1, h2⟩
    exact ⟨s, by omega, h2⟩
theorem stp_lt {R : Rv} {s j : Nat} (hn : rN R ≤ 16) (h : stp R s j) : j < 64 ∧ (j : Int) < 4 * rN R := by
  obtain ⟨b, h1, h2⟩ := h
  have hr := aftA_rng (act := (b : Int)) (s := (s : Int)) hn (by omega)
  omega
theorem rch_0 {R : Rv} {p : Int} {j : Nat} : rch R p 0 j ↔ j = p.toNat := by
  show (2 ^ p.toNat).testBit j = true ↔ _
  rw [Nat.testBit_two_pow, decide_eq_true_eq]
  exact eq_comm
theorem cum_0 {R : Rv} {p : Int} {j : Nat} : cum R p 0 j ↔ j = p.toNat := by
  constructor
  · rintro ⟨i, h1, h2⟩
    rw [show i = 0 by omega] at h2
    exact rch_0.mp h2
  · intro h
    exact ⟨0, Nat.le_refl 0, rch_0.mpr h⟩
theorem cum_succ {R : Rv} {p : Int} {t j : Nat} (hn : rN R ≤ 16) : cum R p (t + 1) j ↔ cum R p t j ∨ ∃ s : Nat, (s : Int) < 4 * rN R ∧ cum R p t s ∧ stp R s j := by
  constructor
  · rintro ⟨i, h1, h2⟩
    by_cases hi : i = t + 1
    · rw [hi] at h2
      obtain ⟨s, g1, g2, g3⟩ := (rch_succ hn).mp h2
      exact Or.inr ⟨s, g1, ⟨t, Nat.le_refl t, g2⟩, g3⟩
    · exact Or.inl ⟨i, by omega, h2⟩
  · rintro (⟨i, h1, h2⟩ | ⟨s, g1, ⟨i, h1, h2⟩, g3⟩)
    · exact ⟨i, by omega, h2⟩
    · exact ⟨i + 1, by omega, (rch_succ hn).mpr ⟨s, g1, h2, g3⟩⟩
theorem rch_lt {R : Rv} {p : Int} {j : Nat} (hn : rN R ≤ 16) (hp : p.toNat < 64) : ∀ t : Nat, rch R p t j → j < 64
  | 0, h => by rw [rch_0.mp h]; exact hp
  | t + 1, h => by
    obtain ⟨s, g1, g2, g3⟩ := (rch_succ hn).mp h
    exact (stp_lt hn g3).1
theorem cum_shut {R : Rv} {p : Int} {u : Nat} (hn : rN R ≤ 16) (hp : p.toNat < 64) (hc : ∀ j : Nat, j < 64 → cum R p (u + 1) j → cum R p u j) : ∀ (t j : Nat), rch R p t j → cum R p u j
  | 0, j, h => ⟨0, Nat.zero_le u, h⟩
  | t + 1, j, h => by
    obtain ⟨s, g1, g2, g3⟩ := (rch_succ hn).mp h
    have ih := cum_shut hn hp hc t s g2
    exact hc j (stp_lt hn g3).1 ((cum_succ hn).mpr (Or.inr ⟨s, g1, ih, g3⟩))
theorem b15 : ∀ c : Nat, (15 : Nat).testBit c = true ↔ c < 4
  | 0 => by decide
  | 1 => by decide
  | 2 => by decide
  | 3 => by decide
  | c + 4 => by
    rw [Nat.testBit_eq_decide_div_mod_eq, decide_eq_true_eq, Nat.div_eq_of_lt]
    · omega
    · rw [Nat.pow_add]
      have h : 0 < 2 ^ c := Nat.pow_pos (by decide)
      omega
theorem tea_iff {R : Rv} {m : Nat} : m &&& teaM R ≠ 0 ↔ ∃ c : Nat, c < 4 ∧ m.testBit (((rN R - 1) * 4).toNat + c) = true := by
  have ht : ∀ j : Nat, (teaM R).testBit j = true ↔ ((rN R - 1) * 4).toNat ≤ j ∧ j - ((rN R - 1) * 4).toNat < 4 := by
    intro j
    unfold teaM
    rw [Nat.mul_comm, Nat.testBit_two_pow_mul, Bool.and_eq_true, decide_eq_true_eq, b15]
  constructor
  · intro h
    obtain ⟨j, hj⟩ := Nat.exists_testBit_of_ne_zero h
    rw [Nat.testBit_and, Bool.and_eq_true, ht] at hj
    refine ⟨j - ((rN R - 1) * 4).toNat, hj.2.2, ?_⟩
    rw [show ((rN R - 1) * 4).toNat + (j - ((rN R - 1) * 4).toNat) = j by omega]
    exact hj.1
  · rintro ⟨c, h1, h2⟩ h
    have h3 : (m &&& teaM R).testBit (((rN R - 1) * 4).toNat + c) = true := by
      rw [Nat.testBit_and, h2, (ht _).mpr ⟨by omega, by omega⟩]
      rfl
    rw [h, Nat.zero_testBit] at h3
    exact absurd h3 (by decide)
theorem sum_le {f : Nat → Int} : ∀ {k : Nat}, (∀ j, j < k → f j ≤ 1) → sumT f k ≤ (k : Int)
  | 0, _ => by show (0 : Int) ≤ ((0 : Nat) : Int); omega
  | k + 1, h => by
    have ih := sum_le (f := f) (k := k) (fun j hj => h j (by omega))
    have hk := h k (by omega)
    show sumT f k + f k ≤ ((k + 1 : Nat) : Int)
    omega
theorem sum_mono {f g : Nat → Int} : ∀ {k : Nat}, (∀ j, j < k → f j ≤ g j) → sumT f k ≤ sumT g k
  | 0, _ => Int.le_refl _
  | k + 1, h => by
    have ih := sum_mono (f := f) (g := g) (k := k) (fun j hj => h j (by omega))
    have hk := h k (by omega)
    show sumT f k + f k ≤ sumT g k + g k
    omega
theorem sum_strict {f g : Nat → Int} {j0 : Nat} : ∀ {k : Nat}, (∀ j, j < k → f j ≤ g j) → j0 < k → f j0 + 1 ≤ g j0 → sumT f k + 1 ≤ sumT g k
  | 0, _, h0, _ => absurd h0 (by omega)
  | k + 1, h, h0, h1 => by
    have hk := h k (by omega)
    show sumT f k + f k + 1 ≤ sumT g k + g k
    by_cases hj : j0 = k
    · have ih := sum_mono (f := f) (g := g) (k := k) (fun j hj => h j (by omega))
      rw [hj] at h1
      omega
    · have ih := sum_strict (f := f) (g := g) (k := k) (fun j hj => h j (by omega)) (by omega) h1
      omega
theorem sum_pos {f : Nat → Int} {j0 : Nat} : ∀ {k : Nat}, (∀ j, j < k → 0 ≤ f j) → j0 < k → f j0 = 1 → 1 ≤ sumT f k
  | 0, _, h0, _ => absurd h0 (by omega)
  | k + 1, h, h0, h1 => by
    have hk := h k (by omega)
    show 1 ≤ sumT f k + f k
    by_cases hj : j0 = k
    · have ih := sum_mono (f := fun _ => 0) (g := f) (k := k) (fun j hj => h j (by omega))
      have h00 : ∀ m : Nat, sumT (fun _ => 0) m = 0 := by
        intro m
        induction m with
        | zero => rfl
        | succ m ih => show sumT (fun _ => 0) m + 0 = 0; omega
      rw [h00] at ih
      rw [hj] at h1
      omega
    · have ih := sum_pos (f := f) (k := k) (fun j hj => h j (by omega)) (by omega) h1
      omega
/-- all that is seen, as far as it is gone through: the spots below v, and of v the acts below a -/
def gaN (R : Rv) (f g : Nat → Int) (v a : Int) : Prop := ∀ j : Nat, j < 64 → (g j = 1 ↔ f j = 1 ∨ (∃ s : Nat, (s : Int) < v ∧ f s = 1 ∧ stp R s j) ∨ (f v.toNat = 1 ∧ ∃ b : Nat, (b : Int) < a ∧ aftA R (b : Int) v = (j : Int)))
def gaM (f g : Nat → Int) (m : Int) : Prop := (m = 1 ∧ ∃ j : Nat, j < 64 ∧ f j ≠ 1 ∧ g j = 1) ∨ (m = 0 ∧ ∀ j : Nat, j < 64 → g j = 1 → f j = 1)
def bitsN (f : Nat → Int) (n : Int) : Prop := ∀ j : Nat, (j : Int) < n → f j = 0 ∨ f j = 1
theorem gaN_0 {R : Rv} {f g : Nat → Int} (h : ∀ j : Nat, j < 64 → g j = f j) : gaN R f g 0 0 := by
  intro j hj
  rw [h j hj]
  constructor
  · exact Or.inl
  · rintro (h1 | ⟨s, h1, _⟩ | ⟨_, b, h1, _⟩)
    · exact h1
    · exact absurd h1 (by omega)
    · exact absurd h1 (by omega)
theorem gaM_0 {f g : Nat → Int} (h : ∀ j : Nat, j < 64 → g j = f j) : gaM f g 0 := Or.inr ⟨rfl, fun j hj q => by rw [← h j hj]; exact q⟩
theorem gaN_row {R : Rv} {f g : Nat → Int} {v a : Int} (hv : 0 ≤ v) (h : gaN R f g v a) (ha : a = 4 ∨ (a ≤ 4 ∧ f v.toNat ≠ 1)) : gaN R f g (v + 1) 0 := by
  intro j hj
  rw [h j hj]
  constructor
  · rintro (h1 | ⟨s, h1, h2⟩ | ⟨h1, b, h2, h3⟩)
    · exact Or.inl h1
    · exact Or.inr (Or.inl ⟨s, by omega, h2⟩)
    · refine Or.inr (Or.inl ⟨v.toNat, by omega, h1, b, by omega, ?_⟩)
      rw [castN hv]
      exact h3
  · rintro (h1 | ⟨s, h1, h2, h3⟩ | ⟨_, b, h1, _⟩)
    · exact Or.inl h1
    · by_cases hs : (s : Int) = v
      · rcases ha with ha | ha
        · obtain ⟨b, g1, g2⟩ := h3
          refine Or.inr (Or.inr ⟨by rw [← hs]; exact h2, b, by omega, by rw [← hs]; exact g2⟩)
        · exact absurd (show f v.toNat = 1 by rw [← hs]; exact h2) ha.2
      · exact Or.inr (Or.inl ⟨s, by omega, h2, h3⟩)
    · exact absurd h1 (by omega)
theorem gaN_skip {R : Rv} {f g : Nat → Int} {v a : Int} (ha : 0 ≤ a) (h : gaN R f g v a) (hs : aftA R a v = -1) : gaN R f g v (a + 1) := by
  intro j hj
  rw [h j hj]
  constructor
  · rintro (h1 | h1 | ⟨h1, b, h2, h3⟩)
    · exact Or.inl h1
    · exact Or.inr (Or.inl h1)
    · exact Or.inr (Or.inr ⟨h1, b, by omega, h3⟩)
  · rintro (h1 | h1 | ⟨h1, b, h2, h3⟩)
    · exact Or.inl h1
    · exact Or.inr (Or.inl h1)
    · by_cases hb : (b : Int) = a
      · rw [hb, hs] at h3
        exact absurd h3 (by omega)
      · exact Or.inr (Or.inr ⟨h1, b, by omega, h3⟩)
theorem gaN_add {R : Rv} {f g : Nat → Int} {v a x : Int} (ha : 0 ≤ a) (h : gaN R f g v a) (hf : f v.toNat = 1) (hs : aftA R a v = x) (hx : 0 ≤ x) : gaN R f (va_up g x.toNat 1) v (a + 1) := by
  intro j hj
  by_cases hjx : j = x.toNat
  · rw [hjx, up_s]
    refine ⟨fun _ => Or.inr (Or.inr ⟨hf, a.toNat, by omega, ?_⟩), fun _ => rfl⟩
    rw [castN ha, hs]
    omega
  · rw [up_n hjx, h j hj]
    constructor
    · rintro (h1 | h1 | ⟨h1, b, h2, h3⟩)
      · exact Or.inl h1
      · exact Or.inr (Or.inl h1)
      · exact Or.inr (Or.inr ⟨h1, b, by omega, h3⟩)
    · rintro (h1 | h1 | ⟨h1, b, h2, h3⟩)
      · exact Or.inl h1
      · exact Or.inr (Or.inl h1)
      · by_cases hb : (b : Int) = a
        · rw [hb, hs] at h3
          exact absurd h3 (by omega)
        · exact Or.inr (Or.inr ⟨h1, b, by omega, h3⟩)
theorem gaM_1 {f g : Nat → Int} {i : Nat} (h : gaM f g 1) : gaM f (va_up g i 1) 1 := by
  rcases h with ⟨_, j, h1, h2, h3⟩ | ⟨h, _⟩
  · refine Or.inl ⟨rfl, j, h1, h2, ?_⟩
    by_cases hj : j = i
    · rw [hj, up_s]
    · rw [up_n hj]; exact h3
  · exact absurd h (by decide)
theorem gaM_new {f g : Nat → Int} {i : Nat} (hi : i < 64) (hf : f i ≠ 1) : gaM f (va_up g i 1) 1 := Or.inl ⟨rfl, i, hi, hf, up_s⟩
theorem gaM_old {f g : Nat → Int} {i : Nat} (h : gaM f g 0) (hg : g i = 1) : gaM f (va_up g i 1) 0 := by
  rcases h with ⟨h, _⟩ | ⟨_, h⟩
  · exact absurd h (by decide)
  · refine Or.inr ⟨rfl, fun j hj q => h j hj ?_⟩
    by_cases hji : j = i
    · rw [hji]; exact hg
    · rw [up_n hji] at q; exact q
theorem gaN_sub {R : Rv} {f g : Nat → Int} {v a : Int} (h : gaN R f g v a) {i : Nat} (hi : i < 64) (hf : f i = 1) : g i = 1 := (h i hi).mpr (Or.inl hf)
theorem gaN_end {R : Rv} {f g : Nat → Int} (hn : 0 ≤ rN R) (h : gaN R f g (4 * rN R) 0) : ∀ j : Nat, j < 64 → (g j = 1 ↔ f j = 1 ∨ ∃ s : Nat, (s : Int) < 4 * rN R ∧ f s = 1 ∧ stp R s j) := by
  intro j hj
  rw [h j hj]
  constructor
  · rintro (h1 | h1 | ⟨_, b, h1, _⟩)
    · exact Or.inl h1
    · exact Or.inr h1
    · exact absurd h1 (by omega)
  · rintro (h1 | h1)
    · exact Or.inl h1
    · exact Or.inr (Or.inl h1)
theorem up_bitsN {g : Nat → Int} {n : Int} {i : Nat} {v : Int} (h : bitsN g n) (hv : v = 0 ∨ v = 1) : bitsN (va_up g i v) n := by
  intro j hj
  by_cases hji : j = i
  · rw [hji, up_s]; exact hv
  · rw [up_n hji]; exact h j hj
def thr (n : Int) (f : Nat → Int) : Prop := ∃ t : Nat, t < 4 ∧ f (4 * (n - 1) + (t : Int)).toNat = 1
/-- what the search knows behind u turns -/
def srch (R : Rv) (p : Int) (f : Nat → Int) (u m : Int) : Prop := bitsN f 64 ∧ (∀ j : Nat, j < 64 → (f j = 1 ↔ cum R p u.toNat j)) ∧ (∀ i : Nat, (i : Int) < u → itM R (2 ^ p.toNat) i &&& teaM R = 0) ∧ ((m = 1 ∧ u + 1 ≤ sumT f 64) ∨ (m = 0 ∧ 1 ≤ u ∧ u ≤ sumT f 64 ∧ ∀ j : Nat, j < 64 → cum R p u.toNat j → cum R p (u.toNat - 1) j))
theorem thr_iff {R : Rv} {p u m : Int} {f : Nat → Int} (hn : 2 ≤ rN R ∧ rN R ≤ 16) (h : srch R p f u m) : thr (rN R) f ↔ ∃ i : Nat, i ≤ u.toNat ∧ itM R (2 ^ p.toNat) i &&& teaM R ≠ 0 := by
  obtain ⟨h1, h2, h3, h4⟩ := h
  constructor
  · rintro ⟨t, g1, g2⟩
    obtain ⟨i, k1, k2⟩ := (h2 _ (by omega)).mp g2
    refine ⟨i, k1, tea_iff.mpr ⟨t, g1, ?_⟩⟩
    rw [show ((rN R - 1) * 4).toNat + t = (4 * (rN R - 1) + (t : Int)).toNat by omega]
    exact k2
  · rintro ⟨i, k1, k2⟩
    obtain ⟨c, g1, g2⟩ := tea_iff.mp k2
    refine ⟨c, g1, (h2 _ (by omega)).mpr ⟨i, k1, ?_⟩⟩
    rw [show (4 * (rN R - 1) + (c : Int)).toNat = ((rN R - 1) * 4).toNat + c by omega]
    exact g2
theorem tea_0 {R : Rv} {p : Int} (hn : 2 ≤ rN R ∧ rN R ≤ 16) (hp : 0 ≤ p ∧ p ≤ 3) : itM R (2 ^ p.toNat) 0 &&& teaM R = 0 := by
  by_cases h : itM R (2 ^ p.toNat) 0 &&& teaM R = 0
  · exact h
  · obtain ⟨c, g1, g2⟩ := tea_iff.mp h
    have g3 := rch_0.mp (show rch R p 0 (((rN R - 1) * 4).toNat + c) from g2)
    omega
theorem srch_yes {R : Rv} {p u m : Int} {f : Nat → Int} (hn : 2 ≤ rN R ∧ rN R ≤ 16) (hp : 0 ≤ p ∧ p ≤ 3) (hu : 0 ≤ u) (h : srch R p f u m) (ht : thr (rN R) f) : soonX R p u := by
  obtain ⟨i, k1, k2⟩ := (thr_iff hn h).mp ht
  obtain ⟨h1, h2, h3, h4⟩ := h
  have hi : (i : Int) = u := by
    by_cases hq : (i : Int) < u
    · exact absurd (h3 i hq) k2
    · omega
  have hi0 : i ≠ 0 := fun q => k2 (by rw [q]; exact tea_0 hn hp)
  have hs := sum_le (f := f) (k := 64) (fun j hj => by have := h1 j (by omega); omega)
  refine Or.inl ⟨by omega, by omega, ?_, fun t g1 g2 => h3 t g2⟩
  rw [show u.toNat = i by omega]
  exact k2
theorem srch_no {R : Rv} {p u m : Int} {f : Nat → Int} (hn : 2 ≤ rN R ∧ rN R ≤ 16) (hp : 0 ≤ p ∧ p ≤ 3) (h : srch R p f u m) (hm : m = 0) (ht : ¬ thr (rN R) f) : soonX R p (-9) := by
  have hk := fun q => ht ((thr_iff hn h).mpr q)
  obtain ⟨h1, h2, h3, h4⟩ := h
  refine Or.inr ⟨rfl, fun t _ _ => ?_⟩
  rcases h4 with ⟨g, _⟩ | ⟨_, g1, _, g2⟩
  · exact absurd g (by omega)
  · by_cases hq : itM R (2 ^ p.toNat) t &&& teaM R = 0
    · exact hq
    · obtain ⟨c, e1, e2⟩ := tea_iff.mp hq
      obtain ⟨i, e3, e4⟩ := cum_shut (u := u.toNat - 1) hn.2 (by omega) (by rw [show u.toNat - 1 + 1 = u.toNat by omega]; exact g2) t _ e2
      exact absurd ⟨i, by omega, tea_iff.mpr ⟨c, e1, e4⟩⟩ hk
theorem srch_0 {R : Rv} {p : Int} {f : Nat → Int} (hp : 0 ≤ p ∧ p ≤ 3) (hf : ∀ j : Nat, j < 64 → f j = if (j : Int) = p then 1 else 0) : srch R p f 0 1 := by
  have hb : bitsN f 64 := fun j hj => by
    rw [hf j (by omega)]
    split
    · exact Or.inr rfl
    · exact Or.inl rfl
  refine ⟨hb, fun j hj => ?_, fun i hi => absurd hi (by omega), Or.inl ⟨rfl, ?_⟩⟩
  · rw [hf j hj]
    show _ ↔ cum R p 0 j
    rw [cum_0]
    by_cases hq : (j : Int) = p
    · rw [if_pos hq]; exact ⟨fun _ => by omega, fun _ => rfl⟩
    · rw [if_neg hq]; exact ⟨fun q => absurd q (by decide), fun q => absurd q (by omega)⟩
  · exact sum_pos (j0 := p.toNat) (fun j hj => by have := hb j (by omega); omega) (by omega) (by rw [hf _ (by omega), if_pos (by omega)])
theorem srch_go {R : Rv} {p u : Int} {f g : Nat → Int} {e : Int} (hn : 2 ≤ rN R ∧ rN R ≤ 16) (hu : 0 ≤ u) (h : srch R p f u 1) (ht : ¬ thr (rN R) f) (hb : bitsN g 64) (hg : ∀ j : Nat, j < 64 → (g j = 1 ↔ f j = 1 ∨ ∃ s : Nat, (s : Int) < 4 * rN R ∧ f s = 1 ∧ stp R s j)) (he : gaM f g e) : srch R p g (u + 1) e := by
  have hk := fun q => ht ((thr_iff hn h).mpr q)
  obtain ⟨h1, h2, h3, h4⟩ := h
  have hs : u + 1 ≤ sumT f 64 := by
    rcases h4 with ⟨_, q⟩ | ⟨q, _⟩
    · exact q
    · exact absurd q (by decide)
  have hC : ∀ j : Nat, j < 64 → (g j = 1 ↔ cum R p (u + 1).toNat j) := by
    intro j hj
    rw [hg j hj, stepN hu, cum_succ hn.2, h2 j hj]
    constructor
    · rintro (q | ⟨s, q1, q2, q3⟩)
      · exact Or.inl q
      · exact Or.inr ⟨s, q1, (h2 s (by omega)).mp q2, q3⟩
    · rintro (q | ⟨s, q1, q2, q3⟩)
      · exact Or.inl q
      · exact Or.inr ⟨s, q1, (h2 s (by omega)).mpr q2, q3⟩
  have hle : ∀ j, j < 64 → f j ≤ g j := by
    intro j hj
    have b1 := h1 j (by omega)
    have b2 := hb j (by omega)
    have b3 := (hg j hj).mpr
    by_cases hf : f j = 1
    · have := b3 (Or.inl hf); omega
    · omega
  refine ⟨hb, hC, fun i hi => ?_, ?_⟩
  · by_cases hq : itM R (2 ^ p.toNat) i &&& teaM R = 0
    · exact hq
    · exact absurd ⟨i, by omega, hq⟩ hk
  · rcases he with ⟨e1, j, e2, e3, e4⟩ | ⟨e1, e2⟩
    · refine Or.inl ⟨e1, ?_⟩
      have b1 := h1 j (by omega)
      have := sum_strict (f := f) (g := g) (j0 := j) (k := 64) hle e2 (by omega)
      omega
    · refine Or.inr ⟨e1, by omega, ?_, fun j hj q => ?_⟩
      · have := sum_mono (f := f) (g := g) (k := 64) hle
        omega
      · rw [show (u + 1).toNat - 1 = u.toNat by omega]
        exact (h2 j hj).mp (e2 j hj ((hC j hj).mpr q))
theorem vM_s {mi : Nat → Int} {ma ya : Nat → Nat → Int} (h : ∀ k, k ≠ 10 → k ≠ 11 → ya k = ma k) : vM mi ya = vM mi ma := by
  rw [vM_fr (mi := mi) (ma := ma) rfl rfl rfl (fun k hk => h k (by omega) (by omega))]
  rfl
theorem MOk_s {mi : Nat → Int} {ma ya : Nat → Nat → Int} (hO : MOk mi ma) (h : ∀ k, k ≠ 10 → k ≠ 11 → ya k = ma k) : MOk mi ya :=
  MOk_fr hO rfl rfl rfl (fun k hk => h k (by omega) (by omega)) hO.2.2.2.2.2.2.2
theorem rvM_s {mi : Nat → Int} {ma ya : Nat → Nat → Int} (h : ∀ k, k ≠ 10 → k ≠ 11 → ya k = ma k) : rvM mi ya = rvM mi ma :=
  rvM_eq rfl (h 1 (by decide) (by decide)) (h 2 (by decide) (by decide)) (h 3 (by decide) (by decide)) (h 4 (by decide) (by decide))
theorem MRv_s {mi : Nat → Int} {ma ya : Nat → Nat → Int} (hR : MRv mi ma) (h : ∀ k, k ≠ 10 → k ≠ 11 → ya k = ma k) : MRv mi ya :=
  MRv_eq rfl rfl (h 1 (by decide) (by decide)) (h 2 (by decide) (by decide)) (h 3 (by decide) (by decide)) (h 4 (by decide) (by decide)) hR
theorem MRv_b {mi : Nat → Int} {ma : Nat → Nat → Int} {k : Nat} {v : Int} (hR : MRv mi ma) (hv : v = 0 ∨ v = 1) : MRv mi (va_up ma 4 (va_up (ma 4) k v)) := by
  obtain ⟨a1, a2, a3, a4, a5, a6⟩ := hR
  refine ⟨a1, a2, ?_, ?_, ?_, ?_⟩
  · rw [up_n (by decide)]; exact a3
  · rw [up_n (by decide)]; exact a4
  · rw [up_n (by decide)]; exact a5
  · rw [up_s]; exact up_bit a6 hv
theorem rvM_b {mi : Nat → Int} {ma : Nat → Nat → Int} {k : Nat} {v : Int} (hk : (k : Int) < mi 1) : rvM mi (va_up ma 4 (va_up (ma 4) k v)) = setB (rvM mi ma) k v := by
  unfold rvM setB
  rw [up_n (by decide), up_n (by decide), up_n (by decide), up_s, nrm_up hk]
theorem gaM_eq {f g h : Nat → Int} {m : Int} (he : ∀ j : Nat, j < 64 → h j = g j) (hm : gaM f g m) : gaM f h m := by
  rcases hm with ⟨e1, j, e2, e3, e4⟩ | ⟨e1, e2⟩
  · exact Or.inl ⟨e1, j, e2, e3, by rw [he j e2]; exact e4⟩
  · exact Or.inr ⟨e1, fun j hj q => e2 j hj (by rw [← he j hj]; exact q)⟩
theorem srch_u {R : Rv} {p u m : Int} {f : Nat → Int} (h : srch R p f u m) : u ≤ 64 ∧ (m = 0 ∨ m = 1) := by
  obtain ⟨h1, h2, h3, h4⟩ := h
  have hs := sum_le (f := f) (k := 64) (fun j hj => by have := h1 j (by omega); omega)
  omega
