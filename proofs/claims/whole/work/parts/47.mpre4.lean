/-- what a plan that may be carried out stands on -/
theorem planM {mi : Nat → Int} {ma : Nat → Nat → Int} {z ln i nn : Int} {p : Prop} [Decidable p] (h : (chkPlan (vM mi ma) z ln i nn p).1 = 0) : (0 ≤ z ∧ z ≤ 3) ∧ (0 ≤ nn ∧ nn ≤ 18) ∧ p ∧ mi 1 ≠ 0 ∧ (0 ≤ i ∧ i + nn ≤ 60 ∨ 60 < ma 14 z.toNat) ∧ (0 ≤ i ∧ i + nn ≤ ma 14 z.toNat) ∧ (∀ k : Nat, (k : Int) < nn → actG (vM mi ma) z.toNat i k = ma 16 ((60 * z + i).toNat + k)) ∧ ∀ k : Nat, (k : Int) < nn → 0 ≤ ma 16 ((60 * z + i).toNat + k) ∧ ma 16 ((60 * z + i).toNat + k) ≤ 3 := by
  obtain ⟨h1, h2, h3, h4⟩ := chkP_0in h
  obtain ⟨h5, h6⟩ := chkA_0in h4
  obtain ⟨h7, h8, h9, h10, h11⟩ := chkC_0in h5
  have hle : aLen (vM mi ma) z.toNat = if ma 14 z.toNat < 0 then 0 else ma 14 z.toNat := lenM_in (by omega)
  have hla : aLan (vM mi ma) z.toNat = if ma 14 z.toNat < 0 then -1 else ma 15 z.toNat := lanM_in (by omega)
  have hnn0 : ¬ ma 14 z.toNat < 0 := fun h => h7 (by rw [hla, if_pos h])
  rw [if_neg hnn0] at hle
  rw [hle] at h11
  have ha : ∀ k : Nat, (k : Int) < nn → actG (vM mi ma) z.toNat i k = ma 16 ((60 * z + i).toNat + k) := by
    intro k hk
    rw [actG_m (n := nn) (by omega) ⟨h10, h11⟩ hk, show (60 * z + i).toNat + k = 60 * z.toNat + (i.toNat + k) by omega]
  refine ⟨h1, h2.2.1, h2.2.2, h3, by omega, ⟨h10, h11⟩, ha, fun k hk => ?_⟩
  rw [← ha k hk]
  exact h6 k (by omega)
theorem runM {mi : Nat → Int} {ma : Nat → Nat → Int} {z i nn : Int} (ha : ∀ k : Nat, (k : Int) < nn → actG (vM mi ma) z.toNat i k = ma 16 ((60 * z + i).toNat + k)) {t : Nat} (ht : (t : Int) ≤ nn) : runS (rvM mi ma) (fun k => ma 16 ((60 * z + i).toNat + k)) (mi 2) t = runS (aR (vM mi ma)) (actG (vM mi ma) z.toNat i) (aP (vM mi ma)) t :=
  runS_congr (fun k hk => (ha k (by omega)).symm)
theorem chkC_f {A : AV} {j : Nat} {l i n : Int} : 0 ≤ (chkCells A j l i n).2 ∧ (chkCells A j l i n).2 ≤ 4 := by
  unfold chkCells
  split
  · decide
  · split
    · decide
    · split
      · decide
      · split <;> decide
theorem chkA_f {A : AV} {j : Nat} {l i n : Int} : 0 ≤ (chkActs A j l i n).2 ∧ (chkActs A j l i n).2 ≤ 4 := by
  unfold chkActs
  split
  · exact chkC_f
  · split <;> decide
theorem chkP_f {A : AV} {s l i n : Int} {p : Prop} [Decidable p] : 0 ≤ (chkPlan A s l i n p).2 ∧ (chkPlan A s l i n p).2 ≤ 4 := by
  unfold chkPlan
  split
  · decide
  · split
    · decide
    · split
      · decide
      · exact chkA_f
