/-- what a plan that may be carried out stands on -/
theorem planM {mi : Nat → Int} {ma : Nat → Nat → Int} {z ln i nn : Int} {p : Prop} [Decidable p] (h : (chkPlan (vM mi ma) z ln i nn p).1 = 0) : (0 ≤ z ∧ z ≤ 3) ∧ (0 ≤ nn ∧ nn ≤ 18) ∧ p ∧ mi 1 ≠ 0 ∧ (0 ≤ i ∧ i + nn ≤ 60 ∨ 60 < ma 14 z.toNat) ∧ (0 ≤ i ∧ i + nn ≤ ma 14 z.toNat) ∧ (∀ k : Nat, (k : Int) < nn → actG (vM mi ma) z.toNat i k = ma 16 ((60 * z + i).toNat + k)) ∧ ∀ k : Nat, (k : Int) < nn → 0 ≤ ma 16 ((60 * z + i).toNat + k) ∧ ma 16 ((60 * z + i).toNat + k) ≤ 3 := by
  obtain ⟨h1, h2, h3, h4⟩ := chkP_0in h
  obtain ⟨h5, h6⟩ := chkA_0in h4
  obtain ⟨h7, h8, h9, h10, h11⟩ := chkC_0in h5
  have hle : aLen (vM mi ma) z.toNat = if ma 14 z.toNat < 0 then 0 else ma 14 z.toNat := lenM_in (by omega)
  have hla : aLan (vM mi ma) z.toNat = if ma 14 z.toNat < 0 then -1 else ma 15 z.toNat := lanM_in (by omega)
  have hnn0 : ¬ ma 14 z.toNat < 0 := fun h => h7 (by rw [hla, if_pos h])
  rw [if_neg hnn0] at hle
  rw [hle] at h11
  have ha : ∀ k : Nat, (k : Int) < nn → actG (vM mi ma) z.toNat i k = ma 16 ((60 * z + i).toNat + k) := by
    intro k hk
    rw [actG_m (n := nn) (by omega) ⟨h10, h11⟩ hk, show (60 * z + i).toNat + k = 60 * z.toNat + (i.toNat + k) by omega]
  refine ⟨h1, h2.2.1, h2.2.2, h3, by omega, ⟨h10, h11⟩, ha, fun k hk => ?_⟩
  rw [← ha k hk]
  exact h6 k (by omega)
theorem runM {mi : Nat → Int} {ma : Nat → Nat → Int} {z i nn : Int} (ha : ∀ k : Nat, (k : Int) < nn → actG (vM mi ma) z.toNat i k = ma 16 ((60 * z + i).toNat + k)) {t : Nat} (ht : (t : Int) ≤ nn) : runS (rvM mi ma) (fun k => ma 16 ((60 * z + i).toNat + k)) (mi 2) t = runS (aR (vM mi ma)) (actG (vM mi ma) z.toNat i) (aP (vM mi ma)) t :=
  runS_congr (fun k hk => (ha k (by omega)).symm)
theorem chkC_f {A : AV} {j : Nat} {l i n : Int} : 0 ≤ (chkCells A j l i n).2 ∧ (chkCells A j l i n).2 ≤ 4 := by
  unfold chkCells
  split
  · decide
  · split
    · decide
    · split
      · decide
      · split <;> decide
theorem chkA_f {A : AV} {j : Nat} {l i n : Int} : 0 ≤ (chkActs A j l i n).2 ∧ (chkActs A j l i n).2 ≤ 4 := by
  unfold chkActs
  split
  · exact chkC_f
  · split <;> decide
theorem chkP_f {A : AV} {s l i n : Int} {p : Prop} [Decidable p] : 0 ≤ (chkPlan A s l i n p).2 ∧ (chkPlan A s l i n p).2 ≤ 4 := by
  unfold chkPlan
  split
  · decide
  · split
    · decide
    · split
      · decide
      · exact chkA_f
theorem cellA_m {mi : Nat → Int} {ma : Nat → Nat → Int} {z i nn : Int} (ha : ∀ k : Nat, (k : Int) < nn → actG (vM mi ma) z.toNat i k = ma 16 ((60 * z + i).toNat + k)) {t : Nat} (ht : (t : Int) < nn) : cellS (rvM mi ma) (fun k => ma 16 ((60 * z + i).toNat + k)) (mi 2) t = cellA (vM mi ma) z.toNat i t := by
  unfold cellA cellS
  rw [runM ha (by omega)]
theorem dryM {mi : Nat → Int} {ma : Nat → Nat → Int} {z i nn : Int} (hR : MRv mi ma) (h1 : 1 ≤ mi 1) (ha : ∀ k : Nat, (k : Int) < nn → actG (vM mi ma) z.toNat i k = ma 16 ((60 * z + i).toNat + k)) : prodT (fun t => dten ((fun k => ma 16 ((60 * z + i).toNat + k)) t) (hold (rvM mi ma) (cellS (rvM mi ma) (fun k => ma 16 ((60 * z + i).toNat + k)) (mi 2) t).toNat)) nn.toNat = dryA (vM mi ma) z.toNat i nn (-1) 0 := by
  unfold dryA
  refine prodT_congr (fun t ht => ?_)
  have hlt := runS_lt (R := rvM mi ma) (g := actG (vM mi ma) z.toNat i) (p0 := mi 2) hR.1.2 (by have := hR.2.1; show 0 ≤ mi 2 ∧ mi 2 < 4 * mi 1; omega) t
  have hc : ¬ cellA (vM mi ma) z.toNat i t = -1 := by
    show ¬ (runS (rvM mi ma) (actG (vM mi ma) z.toNat i) (mi 2) t).1 / 4 = -1
    omega
  rw [cellA_m ha (by omega), if_neg hc, ha t (by omega)]
  rfl
theorem dryM_rng {mi : Nat → Int} {ma : Nat → Nat → Int} {j : Nat} {i nn : Int} (hR : MRv mi ma) (c : Int) {h : Int} (hh : 0 ≤ h ∧ h ≤ 9) : 1 ≤ dryA (vM mi ma) j i nn c h ∧ dryA (vM mi ma) j i nn c h ≤ 10 ^ nn.toNat := by
  unfold dryA
  refine prodT_rng (fun t => dten_rng ?_) _
  split
  · exact hh
  · exact hold_rng ((MRv_M hR).2 _)
