/-! what both sides mean -/
def cutL (lane v : Int) : Int := if lane = 0 then cut8 v else if lane = 1 then cut16 v else v
def RowOk (xi : Nat → Int) (xa : Nat → Nat → Int) (j : Nat) : Prop := (-1 ≤ xi (2 + j) ∧ xi (2 + j) ≤ 2) ∧ (0 ≤ xi (6 + j) ∧ xi (6 + j) ≤ 60) ∧ ∀ k : Nat, -2147483648 ≤ xa j k ∧ xa j k < 2147483648
def RvOk (xi : Nat → Int) (xa : Nat → Nat → Int) (b : Nat) : Prop := (0 ≤ xi (10 + b) ∧ xi (10 + b) ≤ 16) ∧ (0 ≤ xi (12 + b) ∧ xi (12 + b) ≤ 3) ∧ (∀ k : Nat, 0 ≤ xa (4 + b) k ∧ xa (4 + b) k ≤ 2) ∧ (∀ k : Nat, 0 ≤ xa (6 + b) k ∧ xa (6 + b) k ≤ 9) ∧ (∀ k : Nat, xa (8 + b) k = 0 ∨ xa (8 + b) k = 1) ∧ ∀ k : Nat, xa (10 + b) k = 0 ∨ xa (10 + b) k = 1
