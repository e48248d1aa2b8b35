/-! plans: spots, cells, shares; bits counted -/
def runS (R : Rv) (g : Nat → Int) (p0 : Int) : Nat → Int × Int
  | 0 => (p0, -9)
  | t + 1 => if 0 ≤ (runS R g p0 t).2 then runS R g p0 t else if aftA R (g t) (runS R g p0 t).1 = -1 then ((runS R g p0 t).1, (t : Int)) else (aftA R (g t) (runS R g p0 t).1, -9)
theorem runS_stuck {R : Rv} {g : Nat → Int} {p0 : Int} {t : Nat} (h : 0 ≤ (runS R g p0 t).2) : ∀ d : Nat, runS R g p0 (t + d) = runS R g p0 t
  | 0 => rfl
  | d + 1 => by rw [show t + (d + 1) = (t + d) + 1 from rfl, runS, runS_stuck h d, if_pos h]
theorem runS_rng {R : Rv} {g : Nat → Int} {p0 : Int} (hn : rN R ≤ 16) (hp : 0 ≤ p0 ∧ p0 < 64) : ∀ t : Nat, 0 ≤ (runS R g p0 t).1 ∧ (runS R g p0 t).1 < 64
  | 0 => hp
  | t + 1 => by
    have ih := runS_rng (g := g) hn hp t
    rw [runS]
    split
    · exact ih
    · split
      · exact ih
      · rename_i h1 h2
        have := aftA_rng (act := g t) hn ih.1
        show 0 ≤ aftA R (g t) (runS R g p0 t).1 ∧ aftA R (g t) (runS R g p0 t).1 < 64
        omega
theorem runS_go {R : Rv} {g : Nat → Int} {p0 : Int} {t : Nat} (h : (runS R g p0 t).2 = -9) (ha : aftA R (g t) (runS R g p0 t).1 ≠ -1) : runS R g p0 (t + 1) = (aftA R (g t) (runS R g p0 t).1, -9) := by
  rw [runS, if_neg (by omega), if_neg ha]
theorem runS_no {R : Rv} {g : Nat → Int} {p0 : Int} {t : Nat} (h : (runS R g p0 t).2 = -9) (ha : aftA R (g t) (runS R g p0 t).1 = -1) : runS R g p0 (t + 1) = ((runS R g p0 t).1, (t : Int)) := by
  rw [runS, if_neg (by omega), if_pos ha]
theorem runS_back {R : Rv} {g : Nat → Int} {p0 : Int} {t : Nat} (h : (runS R g p0 (t + 1)).2 = -9) : (runS R g p0 t).2 = -9 := by
  rw [runS] at h
  split at h
  · exact h
  · rename_i h1
    have : ∀ k : Nat, (runS R g p0 k).2 = -9 ∨ 0 ≤ (runS R g p0 k).2 := by
      intro k
      induction k with
      | zero => exact Or.inl rfl
      | succ k ih =>
        rw [runS]
        split
        · exact ih
        · split
          · exact Or.inr (by show (0 : Int) ≤ (k : Int); omega)
          · exact Or.inl rfl
    exact (this t).resolve_right h1
def cellS (R : Rv) (g : Nat → Int) (p0 : Int) (t : Nat) : Int := (runS R g p0 t).1 / 4
def dten (act h : Int) : Int := if act = 0 then 10 - h else if act = 2 then 10 - h / 2 else 10
theorem dten_rng {act h : Int} (hh : 0 ≤ h ∧ h ≤ 9) : 1 ≤ dten act h ∧ dten act h ≤ 10 := by
  unfold dten
  split
  · omega
  · split <;> omega
theorem hold_rng {R : Rv} {c : Nat} (h : 0 ≤ rM R c ∧ rM R c ≤ 9) : 0 ≤ hold R c ∧ hold R c ≤ 9 := holdK_rng h
theorem prodT_rng {g : Nat → Int} (h : ∀ i, 1 ≤ g i ∧ g i ≤ 10) : ∀ k : Nat, 1 ≤ prodT g k ∧ prodT g k ≤ 10 ^ k
  | 0 => ⟨Int.le_refl 1, Int.le_refl 1⟩
  | k + 1 => by
    have ih := prodT_rng h k
    have hk := h k
    show 1 ≤ prodT g k * g k ∧ prodT g k * g k ≤ 10 ^ (k + 1)
    rw [Int.pow_succ]
    constructor
    · have := Int.mul_le_mul ih.1 hk.1 (by omega) (by omega)
      omega
    · exact Int.mul_le_mul ih.2 hk.2 (by omega) (by omega)
theorem pow10_le {k : Nat} (h : k ≤ 18) : (10 : Int) ^ k ≤ 1000000000000000000 := by
  have h1 : 10 ^ k ≤ 10 ^ 18 := Nat.pow_le_pow_right (by decide) h
  have h2 : ((10 ^ k : Nat) : Int) ≤ ((10 ^ 18 : Nat) : Int) := Int.ofNat_le.mpr h1
  rw [Int.natCast_pow] at h2
  exact h2
def RdgOk (xi : Nat → Int) (xa : Nat → Nat → Int) : Prop := (0 ≤ xi 18 ∧ xi 18 ≤ 8) ∧ (∀ k : Nat, -2147483648 ≤ xa 14 k ∧ xa 14 k < 2147483648) ∧ ∀ k : Nat, -2147483648 ≤ xa 15 k ∧ xa 15 k < 2147483648
theorem rvX_eq {xi yi : Nat → Int} {xa ya : Nat → Nat → Int} {b : Nat} (h1 : yi (10 + b) = xi (10 + b)) (h2 : ya (4 + b) = xa (4 + b)) (h3 : ya (6 + b) = xa (6 + b)) (h4 : ya (8 + b) = xa (8 + b)) (h5 : ya (10 + b) = xa (10 + b)) : rvX yi ya b = rvX xi xa b := by
  unfold rvX
  rw [h1, h2, h3, h4, h5]
theorem RvOk_eq {xi yi : Nat → Int} {xa ya : Nat → Nat → Int} {b : Nat} (h1 : yi (10 + b) = xi (10 + b)) (h6 : yi (12 + b) = xi (12 + b)) (h2 : ya (4 + b) = xa (4 + b)) (h3 : ya (6 + b) = xa (6 + b)) (h4 : ya (8 + b) = xa (8 + b)) (h5 : ya (10 + b) = xa (10 + b)) (h : RvOk xi xa b) : RvOk yi ya b := by
  unfold RvOk
  rw [h1, h2, h3, h4, h5, h6]
  exact h
def polM (g cs : Nat → Int) : Nat → Nat
  | 0 => 0
  | t + 1 => if g t = 0 ∨ g t = 2 then polM g cs t ||| 2 ^ (cs t).toNat else polM g cs t
theorem polM_lt {g cs : Nat → Int} (h : ∀ k : Nat, 0 ≤ cs k ∧ cs k ≤ 15) : ∀ t : Nat, polM g cs t < 2 ^ 16
  | 0 => by show 0 < 2 ^ 16; decide
  | t + 1 => by
    have ih := polM_lt (g := g) h t
    rw [polM]
    split
    · exact Nat.or_lt_two_pow ih (Nat.pow_lt_pow_right (by decide) (by have := h t; omega))
    · exact ih

