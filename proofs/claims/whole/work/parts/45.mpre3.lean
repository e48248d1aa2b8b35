theorem lanM_in {ma : Nat → Nat → Int} {j : Nat} (h : j < 4) : lanM ma j = if ma 14 j < 0 then -1 else ma 15 j := if_pos h
theorem lenM_in {ma : Nat → Nat → Int} {j : Nat} (h : j < 4) : lenM ma j = if ma 14 j < 0 then 0 else ma 14 j := if_pos h
theorem numM_in {ma : Nat → Nat → Int} {j : Nat} (h : j < 4) : numM ma j = nrm (lenM ma j) (fun i => ma 16 (60 * j + i)) := if_pos h
theorem chkC_m {mi : Nat → Int} {ma : Nat → Nat → Int} {j : Nat} {l i n : Int} (hj : j < 4) (h15 : 0 ≤ ma 15 j) : chkCells (vM mi ma) j l i n = if ma 14 j < 0 then (-11, 1) else if ma 15 j ≠ l then (-12, 2) else if n < 0 then (-14, 4) else if ¬ (0 ≤ i ∧ i + n ≤ ma 14 j) then (-13, 3) else (0, 0) := by
  have e1 : aLan (vM mi ma) j = if ma 14 j < 0 then -1 else ma 15 j := lanM_in hj
  have e2 : aLen (vM mi ma) j = if ma 14 j < 0 then 0 else ma 14 j := lenM_in hj
  unfold chkCells
  rw [e1, e2]
  by_cases h : ma 14 j < 0
  · rw [if_pos h, if_pos rfl, if_pos h]
  · rw [if_neg h, if_neg h, if_neg (by omega), if_neg h]
theorem chkC_0in {A : AV} {j : Nat} {l i n : Int} (h : (chkCells A j l i n).1 = 0) : aLan A j ≠ -1 ∧ aLan A j = l ∧ 0 ≤ n ∧ 0 ≤ i ∧ i + n ≤ aLen A j := by
  unfold chkCells at h
  split at h
  · exact absurd h (by decide)
  · split at h
    · exact absurd h (by decide)
    · split at h
      · exact absurd h (by decide)
      · split at h
        · exact absurd h (by decide)
        · rename_i h1 h2 h3 h4
          have h5 := Classical.not_not.mp h2
          have h6 := Classical.not_not.mp h4
          exact ⟨h1, h5, by omega, h6.1, h6.2⟩
theorem chkA_0in {A : AV} {j : Nat} {l i n : Int} (h : (chkActs A j l i n).1 = 0) : (chkCells A j l i n).1 = 0 ∧ ∀ k : Nat, k < n.toNat → 0 ≤ actG A j i k ∧ actG A j i k ≤ 3 := by
  unfold chkActs at h
  split at h
  · rename_i h1
    exact absurd h h1
  · split at h
    · exact absurd h (by decide)
    · rename_i h1 h2
      exact ⟨Classical.not_not.mp h1, Classical.not_not.mp h2⟩
theorem chkP_0in {A : AV} {s l i n : Int} {p : Prop} [Decidable p] (h : (chkPlan A s l i n p).1 = 0) : (0 ≤ s ∧ s ≤ 3) ∧ ((0 ≤ l ∧ l ≤ 2) ∧ (0 ≤ n ∧ n ≤ 18) ∧ p) ∧ rN (aR A) ≠ 0 ∧ (chkActs A s.toNat l i n).1 = 0 := by
  unfold chkPlan at h
  split at h
  · exact absurd h (by decide)
  · split at h
    · exact absurd h (by decide)
    · split at h
      · exact absurd h (by decide)
      · rename_i h1 h2 h3
        exact ⟨Classical.not_not.mp h1, Classical.not_not.mp h2, h3, h⟩
theorem actG_m {mi : Nat → Int} {ma : Nat → Nat → Int} {j k : Nat} {i n : Int} (hj : j < 4) (h : 0 ≤ i ∧ i + n ≤ ma 14 j) (hk : (k : Int) < n) : actG (vM mi ma) j i k = ma 16 (60 * j + (i.toNat + k)) := by
  show numM ma j (i.toNat + k) = _
  rw [numM_in hj, lenM_in hj, if_neg (by omega)]
  exact nrm_in (by omega)
