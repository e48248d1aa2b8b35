/-! the soonest, by masks of spots; sums; the greatest common divisor -/
theorem aftA_rng {R : Rv} {act s : Int} (hn : rN R ≤ 16) (hs : 0 ≤ s) : aftA R act s = -1 ∨ (0 ≤ aftA R act s ∧ aftA R act s < 64 ∧ aftA R act s < 4 * rN R) := by
  unfold aftA
  by_cases h : canB R act (s / 4) (s % 4) = true
  · rw [if_pos h]
    have h1 := (canB_iff.mp h).1
    have h2 := pacA_rng act (s % 4) (by omega)
    refine Or.inr ?_
    unfold celA
    omega
  · rw [if_neg h]
    exact Or.inl rfl
def emk (R : Rv) (s : Int) : Nat → Nat
  | 0 => 0
  | a + 1 => if aftA R (a : Int) s = -1 then emk R s a else emk R s a ||| 2 ^ (aftA R (a : Int) s).toNat
def akm (R : Rv) (mm : Nat) : Nat → Nat
  | 0 => 0
  | s + 1 => if mm.testBit s = true then akm R mm s ||| emk R (s : Int) 4 else akm R mm s
def allM (R : Rv) (mm : Nat) : Nat := akm R mm (4 * rN R).toNat
def itM (R : Rv) (m0 : Nat) : Nat → Nat
  | 0 => m0
  | t + 1 => allM R (itM R m0 t)
def teaM (R : Rv) : Nat := 15 * 2 ^ ((rN R - 1) * 4).toNat
theorem pow64 {k : Nat} (h : k < 64) : 2 ^ k < 2 ^ 64 := Nat.pow_lt_pow_right (by decide) h
theorem emk_lt {R : Rv} {s : Int} (hn : rN R ≤ 16) (hs : 0 ≤ s) : ∀ a : Nat, emk R s a < 2 ^ 64
  | 0 => by show 0 < 2 ^ 64; decide
  | a + 1 => by
    have ih := emk_lt hn hs a
    rw [emk]
    split
    · exact ih
    · rename_i h
      have h1 := aftA_rng (act := (a : Int)) hn hs
      exact Nat.or_lt_two_pow ih (pow64 (by omega))
theorem akm_lt {R : Rv} {mm : Nat} (hn : rN R ≤ 16) : ∀ k : Nat, akm R mm k < 2 ^ 64
  | 0 => by show 0 < 2 ^ 64; decide
  | k + 1 => by
    have ih := akm_lt (mm := mm) hn k
    rw [akm]
    split
    · exact Nat.or_lt_two_pow ih (emk_lt hn (by omega) 4)
    · exact ih
theorem itM_lt {R : Rv} {m0 : Nat} (hn : rN R ≤ 16) (h0 : m0 < 2 ^ 64) : ∀ t : Nat, itM R m0 t < 2 ^ 64
  | 0 => h0
  | _ + 1 => akm_lt hn _
theorem teaM_lt {R : Rv} (hn : 1 ≤ rN R ∧ rN R ≤ 16) : teaM R < 2 ^ 64 := by
  unfold teaM
  have h1 : 2 ^ ((rN R - 1) * 4).toNat ≤ 2 ^ 60 := Nat.pow_le_pow_right (by decide) (by omega)
  omega
def soonX (R : Rv) (p e : Int) : Prop := (1 ≤ e ∧ e ≤ 64 ∧ itM R (2 ^ p.toNat) e.toNat &&& teaM R ≠ 0 ∧ ∀ t : Nat, 1 ≤ t → (t : Int) < e → itM R (2 ^ p.toNat) t &&& teaM R = 0) ∨ (e = -9 ∧ ∀ t : Nat, 1 ≤ t → t ≤ 64 → itM R (2 ^ p.toNat) t &&& teaM R = 0)
def Fin1 : Nat → Int → Int → Prop
  | 0, _, y => y = 0
  | k + 1, x, y => y = 0 ∨ Fin1 k y (x % y)
theorem Fin1_mono : ∀ {k : Nat} {x y : Int}, Fin1 k x y → Fin1 (k + 1) x y
  | 0, _, _, h => Or.inl h
  | _ + 1, _, _, h => h.elim Or.inl (fun h => Or.inr (Fin1_mono h))
theorem Fin1_le {x y : Int} {k : Nat} (h : Fin1 k x y) : ∀ d : Nat, Fin1 (k + d) x y
  | 0 => h
  | d + 1 => Fin1_mono (Fin1_le h d)
theorem Fin1_all : ∀ (j : Nat) (x y : Int), 0 ≤ x → 0 ≤ y → y < 2 ^ j → Fin1 (2 * j) x y
  | 0, x, y, _, h1, h2 => by
    show y = 0
    have : (2 : Int) ^ 0 = 1 := rfl
    omega
  | j + 1, x, y, h0, h1, h2 => by
    show Fin1 (2 * j + 1 + 1) x y
    by_cases hy : y = 0
    · exact Or.inl hy
    · refine Or.inr ?_
      have a1 : 0 ≤ x % y := Int.emod_nonneg x hy
      have a2 : x % y < y := Int.emod_lt_of_pos x (by omega)
      by_cases hr : x % y = 0
      · exact Or.inl hr
      · refine Or.inr (Fin1_all j (x % y) (y % (x % y)) a1 (Int.emod_nonneg y hr) ?_)
        have b1 : y % (x % y) < x % y := Int.emod_lt_of_pos y (by omega)
        have b2 : x % y * (y / (x % y)) + y % (x % y) = y := Int.mul_ediv_add_emod y (x % y)
        have b3 : 1 ≤ y / (x % y) := by
          have := Int.ediv_self hr
          have h3 : (x % y) / (x % y) ≤ y / (x % y) := Int.ediv_le_ediv (by omega) (by omega)
          omega
        have b4 : x % y * 1 ≤ x % y * (y / (x % y)) := Int.mul_le_mul_of_nonneg_left b3 a1
        have b5 : (2 : Int) ^ (j + 1) = 2 ^ j * 2 := Int.pow_succ 2 j
        omega
theorem gcd_step (x y : Int) (hy : y ≠ 0) : Int.gcd y (x % y) = Int.gcd x y := by
  have h := Int.gcd_add_mul_left_right y (x % y) (x / y)
  rw [show x % y + y * (x / y) = x by have := Int.mul_ediv_add_emod x y; omega] at h
  rw [Int.gcd_comm x y]
  exact h.symm
theorem stepN {u : Int} (h : 0 ≤ u) : (u + 1).toNat = u.toNat + 1 := by omega
theorem castN {u : Int} (h : 0 ≤ u) : ((u.toNat : Nat) : Int) = u := by omega
