/-! tables: the surest, the ways -/
def byA (R : Rv) (B : Int → Int) (act s : Int) : Int := if aftA R act s = -1 then 0 else dten act (hold R (s / 4).toNat) * B (aftA R act s)
def max4 (R : Rv) (B : Int → Int) (s : Int) : Nat → Int
  | 0 => 0
  | a + 1 => max (max4 R B s a) (byA R B (a : Int) s)
def bestF (R : Rv) : Nat → Int → Int
  | 0, s => if s / 4 = rN R - 1 then 1 else 0
  | t + 1, s => max4 R (bestF R t) s 4
def RvM (R : Rv) : Prop := rN R ≤ 16 ∧ ∀ c : Nat, 0 ≤ rM R c ∧ rM R c ≤ 9
theorem byA_rng {R : Rv} {B : Int → Int} {U : Int} (hR : RvM R) (hU : 0 ≤ U) (hB : ∀ s : Int, 0 ≤ s → 0 ≤ B s ∧ B s ≤ U) {act s : Int} (hs : 0 ≤ s) : 0 ≤ byA R B act s ∧ byA R B act s ≤ U * 10 := by
  unfold byA
  split
  · omega
  · rename_i h
    have h1 := aftA_rng (act := act) hR.1 hs
    have h2 := hB (aftA R act s) (by omega)
    have h3 := dten_rng (act := act) (hold_rng (hR.2 (s / 4).toNat))
    constructor
    · exact Int.mul_nonneg (by omega) h2.1
    · have a1 : dten act (hold R (s / 4).toNat) * B (aftA R act s) ≤ 10 * U := Int.mul_le_mul h3.2 h2.2 h2.1 (by omega)
      omega
theorem max4_rng {R : Rv} {B : Int → Int} {U : Int} (hR : RvM R) (hU : 0 ≤ U) (hB : ∀ s : Int, 0 ≤ s → 0 ≤ B s ∧ B s ≤ U) {s : Int} (hs : 0 ≤ s) : ∀ a : Nat, 0 ≤ max4 R B s a ∧ max4 R B s a ≤ U * 10
  | 0 => by show (0 : Int) ≤ 0 ∧ (0 : Int) ≤ U * 10; omega
  | a + 1 => by
    have ih := max4_rng hR hU hB hs a
    have h1 := byA_rng hR hU hB (act := (a : Int)) hs
    show 0 ≤ max (max4 R B s a) (byA R B (a : Int) s) ∧ max (max4 R B s a) (byA R B (a : Int) s) ≤ U * 10
    omega
theorem bestF_rng {R : Rv} (hR : RvM R) : ∀ (t : Nat) (s : Int), 0 ≤ s → 0 ≤ bestF R t s ∧ bestF R t s ≤ 10 ^ t
  | 0, s, _ => by
    have h : (10 : Int) ^ 0 = 1 := rfl
    rw [bestF]
    split <;> omega
  | t + 1, s, hs => by
    rw [Int.pow_succ]
    exact max4_rng hR (Int.pow_nonneg (by omega)) (fun s hs => bestF_rng hR t s hs) hs 4
theorem byA_congr {R : Rv} {B C : Int → Int} (hn : rN R ≤ 16) (h : ∀ s : Int, 0 ≤ s → s < 4 * rN R → B s = C s) {act s : Int} (hs : 0 ≤ s) : byA R B act s = byA R C act s := by
  unfold byA
  split
  · rfl
  · rename_i h1
    have h2 := aftA_rng (act := act) hn hs
    rw [h _ (by omega) (by omega)]
def surT (R : Rv) (p : Int) : Nat → Int × Int
  | 0 => (0, 0)
  | k + 1 => if (surT R p k).1 < bestF R (k + 1) p * 10 ^ (11 - k) then (bestF R (k + 1) p * 10 ^ (11 - k), ((k + 1 : Nat) : Int)) else surT R p k
def fstA (R : Rv) (t : Nat) (s : Int) : Int := if byA R (bestF R t) 0 s = bestF R (t + 1) s then 0 else if byA R (bestF R t) 1 s = bestF R (t + 1) s then 1 else if byA R (bestF R t) 2 s = bestF R (t + 1) s then 2 else 3
theorem max4_some {R : Rv} {B : Int → Int} {s : Int} (hb : ∀ a : Int, 0 ≤ byA R B a s) : max4 R B s 4 = byA R B 0 s ∨ max4 R B s 4 = byA R B 1 s ∨ max4 R B s 4 = byA R B 2 s ∨ max4 R B s 4 = byA R B 3 s := by
  have h0 := hb 0
  have h1 := hb 1
  have h2 := hb 2
  have h3 := hb 3
  show max (max (max (max 0 (byA R B ((0 : Nat) : Int) s)) (byA R B ((1 : Nat) : Int) s)) (byA R B ((2 : Nat) : Int) s)) (byA R B ((3 : Nat) : Int) s) = _ ∨ _
  show max (max (max (max 0 (byA R B 0 s)) (byA R B 1 s)) (byA R B 2 s)) (byA R B 3 s) = _ ∨ max (max (max (max 0 (byA R B 0 s)) (byA R B 1 s)) (byA R B 2 s)) (byA R B 3 s) = _ ∨ max (max (max (max 0 (byA R B 0 s)) (byA R B 1 s)) (byA R B 2 s)) (byA R B 3 s) = _ ∨ max (max (max (max 0 (byA R B 0 s)) (byA R B 1 s)) (byA R B 2 s)) (byA R B 3 s) = _
  omega
theorem fstA_is {R : Rv} (hR : RvM R) {t : Nat} {s : Int} (hs : 0 ≤ s) : byA R (bestF R t) (fstA R t s) s = bestF R (t + 1) s ∧ (0 ≤ fstA R t s ∧ fstA R t s ≤ 3) ∧ ∀ a : Int, 0 ≤ a → a < fstA R t s → byA R (bestF R t) a s ≠ bestF R (t + 1) s := by
  have hb : ∀ a : Int, 0 ≤ byA R (bestF R t) a s := fun a => (byA_rng hR (show (0 : Int) ≤ 10 ^ t from Int.pow_nonneg (by omega)) (fun s hs => bestF_rng hR t s hs) hs).1
  have hm : bestF R (t + 1) s = byA R (bestF R t) 0 s ∨ bestF R (t + 1) s = byA R (bestF R t) 1 s ∨ bestF R (t + 1) s = byA R (bestF R t) 2 s ∨ bestF R (t + 1) s = byA R (bestF R t) 3 s := max4_some hb
  unfold fstA
  by_cases h0 : byA R (bestF R t) 0 s = bestF R (t + 1) s
  · rw [if_pos h0]
    exact ⟨h0, by omega, fun a h1 h2 => absurd h2 (by omega)⟩
  · rw [if_neg h0]
    by_cases h1 : byA R (bestF R t) 1 s = bestF R (t + 1) s
    · rw [if_pos h1]
      refine ⟨h1, by omega, fun a g1 g2 => ?_⟩
      rw [show a = 0 by omega]
      exact h0
    · rw [if_neg h1]
      by_cases h2 : byA R (bestF R t) 2 s = bestF R (t + 1) s
      · rw [if_pos h2]
        refine ⟨h2, by omega, fun a g1 g2 => ?_⟩
        rcases (show a = 0 ∨ a = 1 by omega) with rfl | rfl
        · exact h0
        · exact h1
      · rw [if_neg h2]
        refine ⟨by rcases hm with h | h | h | h <;> first | exact absurd h.symm h0 | exact absurd h.symm h1 | exact absurd h.symm h2 | exact h.symm, by omega, fun a g1 g2 => ?_⟩
        rcases (show a = 0 ∨ a = 1 ∨ a = 2 by omega) with rfl | rfl | rfl
        · exact h0
        · exact h1
        · exact h2
/-- the way of the surest: the spot behind k turns of T -/
def sptF (R : Rv) (T : Nat) (p : Int) : Nat → Int
  | 0 => p
  | k + 1 => aftA R (fstA R (T - k - 1) (sptF R T p k)) (sptF R T p k)
theorem sptF_pos {R : Rv} (hR : RvM R) {T : Nat} {p : Int} (hp : 0 ≤ p ∧ p < 4 * rN R) (hb : 0 < bestF R T p) : ∀ k : Nat, k ≤ T → (0 ≤ sptF R T p k ∧ sptF R T p k < 4 * rN R) ∧ 0 < bestF R (T - k) (sptF R T p k)
  | 0, _ => ⟨hp, hb⟩
  | k + 1, hk => by
    obtain ⟨⟨i1, i3⟩, i2⟩ := sptF_pos hR hp hb k (by omega)
    rw [show T - k = (T - k - 1) + 1 by omega] at i2
    obtain ⟨f1, f2, -⟩ := fstA_is hR (t := T - k - 1) i1
    rw [← f1] at i2
    unfold byA at i2
    by_cases h : aftA R (fstA R (T - k - 1) (sptF R T p k)) (sptF R T p k) = -1
    · rw [if_pos h] at i2
      exact absurd i2 (by omega)
    · rw [if_neg h] at i2
      have h1 := aftA_rng (act := fstA R (T - k - 1) (sptF R T p k)) hR.1 i1
      have h3 := dten_rng (act := fstA R (T - k - 1) (sptF R T p k)) (hold_rng (hR.2 (sptF R T p k / 4).toNat))
      have h4 := (bestF_rng hR (T - k - 1) (aftA R (fstA R (T - k - 1) (sptF R T p k)) (sptF R T p k)) (by omega)).1
      refine ⟨by show 0 ≤ aftA R (fstA R (T - k - 1) (sptF R T p k)) (sptF R T p k) ∧ aftA R (fstA R (T - k - 1) (sptF R T p k)) (sptF R T p k) < 4 * rN R; omega, ?_⟩
      show 0 < bestF R (T - (k + 1)) (aftA R (fstA R (T - k - 1) (sptF R T p k)) (sptF R T p k))
      rw [show T - (k + 1) = T - k - 1 by omega]
      rcases Int.lt_or_eq_of_le h4 with h5 | h5
      · exact h5
      · rw [← h5, Int.mul_zero] at i2
        exact absurd i2 (by omega)
def TabOk (R : Rv) (g : Nat → Int) (T : Nat) : Prop := ∀ t s : Nat, t ≤ T → (s : Int) < 4 * rN R → g (64 * t + s) = bestF R t (s : Int)
/-- the ways: of k turns that are left of n, from a spot on; al: what was seen allows a cell behind a turn -/
def sum4 (R : Rv) (B : Int → Int) (s : Int) : Nat → Int
  | 0 => 0
  | a + 1 => sum4 R B s a + (if aftA R (a : Int) s = -1 then 0 else B (aftA R (a : Int) s))
def wayF (R : Rv) (al : Nat → Int → Bool) (n : Nat) : Nat → Int → Int
  | 0, s => if al n (s / 4) = true then 1 else 0
  | k + 1, s => if al (n - (k + 1)) (s / 4) = true then sum4 R (wayF R al n k) s 4 else 0
theorem sum4_rng {R : Rv} {B : Int → Int} {U : Int} (hn : rN R ≤ 16) (hU : 0 ≤ U) (hB : ∀ s : Int, 0 ≤ s → 0 ≤ B s ∧ B s ≤ U) {s : Int} (hs : 0 ≤ s) : ∀ a : Nat, 0 ≤ sum4 R B s a ∧ sum4 R B s a ≤ U * (a : Int)
  | 0 => by show (0 : Int) ≤ 0 ∧ (0 : Int) ≤ U * ((0 : Nat) : Int); rw [show U * ((0 : Nat) : Int) = 0 by simp]; omega
  | a + 1 => by
    have ih := sum4_rng hn hU hB hs a
    have h1 := aftA_rng (act := (a : Int)) hn hs
    have h2 : U * ((a + 1 : Nat) : Int) = U * (a : Int) + U := by rw [Int.natCast_add, Int.mul_add]; simp
    rw [h2]
    show 0 ≤ sum4 R B s a + (if aftA R (a : Int) s = -1 then 0 else B (aftA R (a : Int) s)) ∧ sum4 R B s a + (if aftA R (a : Int) s = -1 then 0 else B (aftA R (a : Int) s)) ≤ U * (a : Int) + U
    by_cases h : aftA R (a : Int) s = -1
    · rw [if_pos h]; omega
    · rw [if_neg h]
      have h3 := hB (aftA R (a : Int) s) (by omega)
      omega
theorem wayF_rng {R : Rv} {al : Nat → Int → Bool} {n : Nat} (hn : rN R ≤ 16) : ∀ (k : Nat) (s : Int), 0 ≤ s → 0 ≤ wayF R al n k s ∧ wayF R al n k s ≤ 4 ^ k
  | 0, s, _ => by
    have h : (4 : Int) ^ 0 = 1 := rfl
    rw [wayF]
    split <;> omega
  | k + 1, s, hs => by
    rw [Int.pow_succ, wayF]
    have h0 : (0 : Int) ≤ 4 ^ k := Int.pow_nonneg (by omega)
    split
    · exact sum4_rng hn h0 (fun s hs => wayF_rng hn k s hs) hs 4
    · omega
theorem pow4_le {k : Nat} (h : k ≤ 7) : (4 : Int) ^ k ≤ 16384 := by
  have h1 : 4 ^ k ≤ 4 ^ 7 := Nat.pow_le_pow_right (by decide) h
  have h2 : ((4 ^ k : Nat) : Int) ≤ ((4 ^ 7 : Nat) : Int) := Int.ofNat_le.mpr h1
  rw [Int.natCast_pow] at h2
  exact h2
theorem pow4_leN {k j : Nat} (h : k ≤ j) : (4 : Int) ^ k ≤ 4 ^ j := by
  have h1 : 4 ^ k ≤ 4 ^ j := Nat.pow_le_pow_right (by decide) h
  have h2 : ((4 ^ k : Nat) : Int) ≤ ((4 ^ j : Nat) : Int) := Int.ofNat_le.mpr h1
  rw [Int.natCast_pow, Int.natCast_pow] at h2
  exact h2
theorem sum4_congr {R : Rv} {B C : Int → Int} (hn : rN R ≤ 16) (h : ∀ s : Int, 0 ≤ s → s < 4 * rN R → B s = C s) {s : Int} (hs : 0 ≤ s) : ∀ a : Nat, sum4 R B s a = sum4 R C s a
  | 0 => rfl
  | a + 1 => by
    have h2 := aftA_rng (act := (a : Int)) hn hs
    show sum4 R B s a + _ = sum4 R C s a + _
    rw [sum4_congr hn h hs a]
    by_cases h1 : aftA R (a : Int) s = -1
    · rw [if_pos h1, if_pos h1]
    · rw [if_neg h1, if_neg h1, h _ (by omega) (by omega)]
def fstW (R : Rv) (B : Int → Int) (s : Int) : Int := if aftA R 0 s ≠ -1 ∧ 0 < B (aftA R 0 s) then 0 else if aftA R 1 s ≠ -1 ∧ 0 < B (aftA R 1 s) then 1 else if aftA R 2 s ≠ -1 ∧ 0 < B (aftA R 2 s) then 2 else if aftA R 3 s ≠ -1 ∧ 0 < B (aftA R 3 s) then 3 else -9
def sptW (R : Rv) (al : Nat → Int → Bool) (n : Nat) (p : Int) : Nat → Int
  | 0 => p
  | k + 1 => aftA R (fstW R (wayF R al n (n - k - 1)) (sptW R al n p k)) (sptW R al n p k)
def WayOk (R : Rv) (al : Nat → Int → Bool) (n : Nat) (g : Nat → Int) (t0 : Int) : Prop := ∀ t s : Nat, t0 ≤ (t : Int) → t ≤ n → (s : Int) < 4 * rN R → g (64 * t + s) = wayF R al n (n - t) (s : Int)
theorem RvM_of {xi : Nat → Int} {xa : Nat → Nat → Int} {b : Nat} (h : RvOk xi xa b) : RvM (rvX xi xa b) := by
  refine ⟨h.1.2, fun c => ?_⟩
  show 0 ≤ nrm (xi (10 + b)) (xa (6 + b)) c ∧ nrm (xi (10 + b)) (xa (6 + b)) c ≤ 9
  unfold nrm
  split
  · exact h.2.2.2.1 c
  · omega
def alX (xi : Nat → Int) (xa : Nat → Nat → Int) : Nat → Int → Bool := fun t cc => (List.range 8).all fun k => !(decide ((k : Int) < xi 18)) || (!(decide (xa 14 k = (t : Int))) || decide (xa 15 k = cc))
theorem alX_iff {xi : Nat → Int} {xa : Nat → Nat → Int} (h8 : xi 18 ≤ 8) {t : Nat} {cc : Int} : alX xi xa t cc = true ↔ ∀ k : Nat, (k : Int) < xi 18 → xa 14 k = (t : Int) → xa 15 k = cc := by
  unfold alX
  rw [List.all_eq_true]
  constructor
  · intro h k h1 h2
    have := h k (List.mem_range.mpr (by omega))
    simpa [h1, h2] using this
  · intro h k hk
    by_cases h1 : (k : Int) < xi 18
    · by_cases h2 : xa 14 k = (t : Int)
      · have := h k h1 h2
        simp [h1, h2, this]
      · simp [h2]
    · simp [h1]
theorem pow10_leN {k j : Nat} (h : k ≤ j) : (10 : Int) ^ k ≤ 10 ^ j := by
  have h1 : 10 ^ k ≤ 10 ^ j := Nat.pow_le_pow_right (by decide) h
  have h2 : ((10 ^ k : Nat) : Int) ≤ ((10 ^ j : Nat) : Int) := Int.ofNat_le.mpr h1
  rw [Int.natCast_pow, Int.natCast_pow] at h2
  exact h2
theorem surB {R : Rv} (hR : RvM R) {k : Nat} (hk : k ≤ 12) {p : Int} (hp : 0 ≤ p) : 0 ≤ bestF R k p * 10 ^ (12 - k) ∧ bestF R k p * 10 ^ (12 - k) ≤ 1000000000000 := by
  have h1 := bestF_rng hR k p hp
  have h2 : (0 : Int) ≤ 10 ^ (12 - k) := Int.pow_nonneg (by omega)
  have h3 : bestF R k p * 10 ^ (12 - k) ≤ 10 ^ k * 10 ^ (12 - k) := Int.mul_le_mul_of_nonneg_right h1.2 h2
  rw [← Int.pow_add, show k + (12 - k) = 12 by omega] at h3
  exact ⟨Int.mul_nonneg h1.1 h2, h3⟩
theorem surT_rng {R : Rv} (hR : RvM R) {p : Int} (hp : 0 ≤ p) : ∀ k : Nat, k ≤ 12 → (0 ≤ (surT R p k).1 ∧ (surT R p k).1 ≤ 1000000000000) ∧ 0 ≤ (surT R p k).2 ∧ (surT R p k).2 ≤ (k : Int) ∧ (0 < (surT R p k).2 → 0 < bestF R (surT R p k).2.toNat p)
  | 0, _ => by
    refine ⟨by show (0 : Int) ≤ 0 ∧ (0 : Int) ≤ 1000000000000; omega, by show (0 : Int) ≤ 0; omega, by show (0 : Int) ≤ ((0 : Nat) : Int); omega, fun h => absurd h (by show ¬ (0 : Int) < 0; omega)⟩
  | k + 1, hk => by
    have ih := surT_rng hR hp k (by omega)
    have hB := surB hR (k := k + 1) (by omega) hp
    rw [show 12 - (k + 1) = 11 - k by omega] at hB
    rw [surT]
    by_cases h : (surT R p k).1 < bestF R (k + 1) p * 10 ^ (11 - k)
    · rw [if_pos h]
      refine ⟨hB, by show (0 : Int) ≤ ((k + 1 : Nat) : Int); omega, by show ((k + 1 : Nat) : Int) ≤ ((k + 1 : Nat) : Int); omega, fun _ => ?_⟩
      show 0 < bestF R ((k + 1 : Nat) : Int).toNat p
      rw [Int.toNat_natCast]
      have h0 := (bestF_rng hR (k + 1) p hp).1
      rcases Int.lt_or_eq_of_le h0 with h1 | h1
      · exact h1
      · rw [← h1, Int.zero_mul] at h
        exact absurd h (by omega)
    · rw [if_neg h]
      exact ⟨ih.1, ih.2.1, by omega, ih.2.2.2⟩
theorem fstA_one {R : Rv} (hR : RvM R) {t : Nat} {s : Int} (hs : 0 ≤ s) {u : Int} (hu : 0 ≤ u ∧ u ≤ 4) (hn : ∀ a : Int, 0 ≤ a → a < u → byA R (bestF R t) a s ≠ bestF R (t + 1) s) : u ≤ fstA R t s := by
  obtain ⟨h1, h2, h3⟩ := fstA_is hR (t := t) hs
  rcases Int.lt_or_le (fstA R t s) u with h | h
  · exact absurd h1 (hn _ h2.1 h)
  · exact h
theorem fstW_is {R : Rv} {B : Int → Int} {s : Int} (hn : rN R ≤ 16) (hs : 0 ≤ s) (hB : ∀ s : Int, 0 ≤ s → s < 4 * rN R → 0 ≤ B s) (h : 0 < sum4 R B s 4) : (aftA R (fstW R B s) s ≠ -1 ∧ 0 < B (aftA R (fstW R B s) s)) ∧ 0 ≤ fstW R B s ∧ fstW R B s ≤ 3 := by
  have e : sum4 R B s 4 = 0 + (if aftA R 0 s = -1 then 0 else B (aftA R 0 s)) + (if aftA R 1 s = -1 then 0 else B (aftA R 1 s)) + (if aftA R 2 s = -1 then 0 else B (aftA R 2 s)) + (if aftA R 3 s = -1 then 0 else B (aftA R 3 s)) := rfl
  have key : ∀ a : Int, ¬ (aftA R a s ≠ -1 ∧ 0 < B (aftA R a s)) → (if aftA R a s = -1 then 0 else B (aftA R a s)) = 0 := by
    intro a hx
    by_cases h1 : aftA R a s = -1
    · rw [if_pos h1]
    · rw [if_neg h1]
      have h2 := aftA_rng (act := a) hn hs
      have h3 := hB (aftA R a s) (by omega) (by omega)
      have h4 : ¬ 0 < B (aftA R a s) := fun q => hx ⟨h1, q⟩
      omega
  unfold fstW
  by_cases h0 : aftA R 0 s ≠ -1 ∧ 0 < B (aftA R 0 s)
  · rw [if_pos h0]; exact ⟨h0, by omega⟩
  · rw [if_neg h0]
    by_cases h1 : aftA R 1 s ≠ -1 ∧ 0 < B (aftA R 1 s)
    · rw [if_pos h1]; exact ⟨h1, by omega⟩
    · rw [if_neg h1]
      by_cases h2 : aftA R 2 s ≠ -1 ∧ 0 < B (aftA R 2 s)
      · rw [if_pos h2]; exact ⟨h2, by omega⟩
      · rw [if_neg h2]
        by_cases h3 : aftA R 3 s ≠ -1 ∧ 0 < B (aftA R 3 s)
        · rw [if_pos h3]; exact ⟨h3, by omega⟩
        · rw [e, key 0 h0, key 1 h1, key 2 h2, key 3 h3] at h
          exact absurd h (by omega)
theorem fstW_at {R : Rv} {B : Int → Int} {s : Int} : ∀ {u : Int}, 0 ≤ u → u ≤ 3 → (∀ a : Int, 0 ≤ a → a < u → ¬ (aftA R a s ≠ -1 ∧ 0 < B (aftA R a s))) → (aftA R u s ≠ -1 ∧ 0 < B (aftA R u s)) → fstW R B s = u := by
  intro u h0 h1 hn hy
  unfold fstW
  rcases (show u = 0 ∨ u = 1 ∨ u = 2 ∨ u = 3 by omega) with rfl | rfl | rfl | rfl
  · rw [if_pos hy]
  · rw [if_neg (hn 0 (by omega) (by omega)), if_pos hy]
  · rw [if_neg (hn 0 (by omega) (by omega)), if_neg (hn 1 (by omega) (by omega)), if_pos hy]
  · rw [if_neg (hn 0 (by omega) (by omega)), if_neg (hn 1 (by omega) (by omega)), if_neg (hn 2 (by omega) (by omega)), if_pos hy]
theorem fstW_none {R : Rv} {B : Int → Int} {s : Int} (hn : ∀ a : Int, 0 ≤ a → a < 4 → ¬ (aftA R a s ≠ -1 ∧ 0 < B (aftA R a s))) : fstW R B s = -9 := by
  unfold fstW
  rw [if_neg (hn 0 (by omega) (by omega)), if_neg (hn 1 (by omega) (by omega)), if_neg (hn 2 (by omega) (by omega)), if_neg (hn 3 (by omega) (by omega))]
theorem sptW_pos {R : Rv} (hn : rN R ≤ 16) {al : Nat → Int → Bool} {n : Nat} {p : Int} (hp : 0 ≤ p ∧ p < 4 * rN R) (hb : 0 < wayF R al n n p) : ∀ k : Nat, k ≤ n → (0 ≤ sptW R al n p k ∧ sptW R al n p k < 4 * rN R) ∧ 0 < wayF R al n (n - k) (sptW R al n p k)
  | 0, _ => ⟨hp, hb⟩
  | k + 1, hk => by
    obtain ⟨⟨i1, i3⟩, i2⟩ := sptW_pos hn hp hb k (by omega)
    rw [show n - k = (n - k - 1) + 1 by omega, wayF] at i2
    by_cases ha : al (n - (n - k - 1 + 1)) (sptW R al n p k / 4) = true
    · rw [if_pos ha] at i2
      obtain ⟨f1, f2⟩ := fstW_is (B := wayF R al n (n - k - 1)) hn i1 (fun s h1 _ => (wayF_rng hn (n - k - 1) s h1).1) i2
      have h1 := aftA_rng (act := fstW R (wayF R al n (n - k - 1)) (sptW R al n p k)) hn i1
      refine ⟨by show 0 ≤ aftA R (fstW R (wayF R al n (n - k - 1)) (sptW R al n p k)) (sptW R al n p k) ∧ aftA R (fstW R (wayF R al n (n - k - 1)) (sptW R al n p k)) (sptW R al n p k) < 4 * rN R; omega, ?_⟩
      show 0 < wayF R al n (n - (k + 1)) (aftA R (fstW R (wayF R al n (n - k - 1)) (sptW R al n p k)) (sptW R al n p k))
      rw [show n - (k + 1) = n - k - 1 by omega]
      exact f1.2
    · rw [if_neg ha] at i2
      exact absurd i2 (by omega)
