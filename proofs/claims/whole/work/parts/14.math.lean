/-! what both sides mean -/
def cutL (lane v : Int) : Int := if lane = 0 then cut8 v else if lane = 1 then cut16 v else v
def RowOk (xi : Nat → Int) (xa : Nat → Nat → Int) (j : Nat) : Prop := (-1 ≤ xi (2 + j) ∧ xi (2 + j) ≤ 2) ∧ (0 ≤ xi (6 + j) ∧ xi (6 + j) ≤ 60) ∧ ∀ k : Nat, -2147483648 ≤ xa j k ∧ xa j k < 2147483648
def RvOk (xi : Nat → Int) (xa : Nat → Nat → Int) (b : Nat) : Prop := (0 ≤ xi (10 + b) ∧ xi (10 + b) ≤ 16) ∧ (0 ≤ xi (12 + b) ∧ xi (12 + b) ≤ 3) ∧ (∀ k : Nat, 0 ≤ xa (4 + b) k ∧ xa (4 + b) k ≤ 2) ∧ (∀ k : Nat, 0 ≤ xa (6 + b) k ∧ xa (6 + b) k ≤ 9) ∧ (∀ k : Nat, xa (8 + b) k = 0 ∨ xa (8 + b) k = 1) ∧ ∀ k : Nat, xa (10 + b) k = 0 ∨ xa (10 + b) k = 1
abbrev Rv : Type := Int × (Nat → Int) × (Nat → Int) × (Nat → Int) × (Nat → Int)
def rN (R : Rv) : Int := R.1
def rK (R : Rv) : Nat → Int := R.2.1
def rM (R : Rv) : Nat → Int := R.2.2.1
def rD (R : Rv) : Nat → Int := R.2.2.2.1
def rB (R : Rv) : Nat → Int := R.2.2.2.2
def nrm (n : Int) (g : Nat → Int) : Nat → Int := fun c => if (c : Int) < n then g c else 0
theorem nrm_in {n : Int} {g : Nat → Int} {c : Nat} (h : (c : Int) < n) : nrm n g c = g c := if_pos h
theorem nrm_out {n : Int} {g : Nat → Int} {c : Nat} (h : ¬ (c : Int) < n) : nrm n g c = 0 := if_neg h
def rvX (xi : Nat → Int) (xa : Nat → Nat → Int) (b : Nat) : Rv := (xi (10 + b), nrm (xi (10 + b)) (xa (4 + b)), nrm (xi (10 + b)) (xa (6 + b)), nrm (xi (10 + b)) (xa (8 + b)), nrm (xi (10 + b)) (xa (10 + b)))
def rvM (mi : Nat → Int) (ma : Nat → Nat → Int) : Rv := (mi 1, nrm (mi 1) (ma 1), nrm (mi 1) (ma 2), nrm (mi 1) (ma 3), nrm (mi 1) (ma 4))
def holdK (deep kind mud : Int) : Int := if deep = 1 then 0 else if kind = 2 then min (2 * (mud + 1)) 9 else if kind = 1 then min (mud + 1) 9 else min mud 9
def hold (R : Rv) (c : Nat) : Int := holdK (rD R c) (rK R c) (rM R c)
def pacA (act p : Int) : Int := if act = 0 then min (p + 1) 3 else if act = 1 then max (p - 1) 0 else if act = 2 then max p 1 else 1
def celA (n c p : Int) : Int := min (c + p) (n - 1)
def brB (R : Rv) (c t : Int) : Bool := (List.range 16).all (fun x => !(decide (c < (x : Int))) || (!(decide ((x : Int) ≤ t)) || decide (rB R x = 0)))
theorem brB_iff {R : Rv} {c t : Int} : brB R c t = true ↔ ∀ x : Nat, x < 16 → c < (x : Int) → (x : Int) ≤ t → rB R x = 0 := by
  unfold brB
  rw [List.all_eq_true]
  constructor
  · intro h x hx h1 h2
    have := h x (List.mem_range.mpr hx)
    simpa [h1, h2] using this
  · intro h x hx
    have hx' := List.mem_range.mp hx
    by_cases h1 : c < (x : Int)
    · by_cases h2 : (x : Int) ≤ t
      · have := h x hx' h1 h2
        simp [h1, h2, this]
      · simp [h2]
    · simp [h1]
def canB (R : Rv) (act c p : Int) : Bool := decide (c < rN R - 1) && ((decide (act = 1) || decide (act = 3) || decide (rD R c.toNat = 0)) && (decide (pacA act p ≤ 1) || brB R c (celA (rN R) c (pacA act p))))
theorem canB_iff {R : Rv} {act c p : Int} : canB R act c p = true ↔ c < rN R - 1 ∧ (act = 1 ∨ act = 3 ∨ rD R c.toNat = 0) ∧ (pacA act p ≤ 1 ∨ ∀ x : Nat, x < 16 → c < (x : Int) → (x : Int) ≤ celA (rN R) c (pacA act p) → rB R x = 0) := by
  unfold canB
  simp only [Bool.and_eq_true, Bool.or_eq_true, decide_eq_true_eq, brB_iff, or_assoc]
def aftA (R : Rv) (act s : Int) : Int := if canB R act (s / 4) (s % 4) = true then 4 * celA (rN R) (s / 4) (pacA act (s % 4)) + pacA act (s % 4) else -1
def sumT (g : Nat → Int) : Nat → Int
  | 0 => 0
  | k + 1 => sumT g k + g k
def prodT (g : Nat → Int) : Nat → Int
  | 0 => 1
  | k + 1 => prodT g k * g k
theorem sumT_congr {g h : Nat → Int} : ∀ {k : Nat}, (∀ i, i < k → g i = h i) → sumT g k = sumT h k
  | 0, _ => rfl
  | k + 1, H => by
    show sumT g k + g k = sumT h k + h k
    rw [sumT_congr (fun i hi => H i (by omega)), H k (by omega)]
theorem prodT_congr {g h : Nat → Int} : ∀ {k : Nat}, (∀ i, i < k → g i = h i) → prodT g k = prodT h k
  | 0, _ => rfl
  | k + 1, H => by
    show prodT g k * g k = prodT h k * h k
    rw [prodT_congr (fun i hi => H i (by omega)), H k (by omega)]
theorem pacA_rng (act p : Int) (hp : 0 ≤ p ∧ p ≤ 3) : 0 ≤ pacA act p ∧ pacA act p ≤ 3 := by
  unfold pacA
  split
  · omega
  · split
    · omega
    · split <;> omega
theorem holdK_rng {deep kind mud : Int} (hm : 0 ≤ mud ∧ mud ≤ 9) : 0 ≤ holdK deep kind mud ∧ holdK deep kind mud ≤ 9 := by
  unfold holdK
  split
  · omega
  · split
    · omega
    · split <;> omega
