theorem vM_rd {mi yi : Nat → Int} {ma ya : Nat → Nat → Int} {m : Int} {t l : Nat → Int} (hx : ∀ k, k ≠ 22 → yi k = mi k) (ha : ∀ k, k ≠ 12 → k ≠ 13 → ya k = ma k) (hm : yi 22 = m) (ht : nrm m (ya 12) = t) (hl : nrm m (ya 13) = l) : vM yi ya = sRd (vM mi ma) m t l := by
  refine av_ext (hx 29 (by decide)) (hx 0 (by decide)) (rvM_eq (hx 1 (by decide)) (ha 1 (by decide) (by decide)) (ha 2 (by decide) (by decide)) (ha 3 (by decide) (by decide)) (ha 4 (by decide) (by decide))) (hx 2 (by decide)) ?_ ?_ ?_ hm ?_ ?_
  · show lanM ya = lanM ma
    unfold lanM
    rw [ha 14 (by decide) (by decide), ha 15 (by decide) (by decide)]
  · show lenM ya = lenM ma
    unfold lenM
    rw [ha 14 (by decide) (by decide)]
  · show numM ya = numM ma
    unfold numM lenM
    rw [ha 14 (by decide) (by decide), ha 16 (by decide) (by decide)]
  · show nrm (yi 22) (ya 12) = t
    rw [hm]; exact ht
  · show nrm (yi 22) (ya 13) = l
    rw [hm]; exact hl
theorem MOk_rd {mi yi : Nat → Int} {ma ya : Nat → Nat → Int} (h : MOk mi ma) (hx : ∀ k, k ≠ 22 → yi k = mi k) (ha : ∀ k, k ≠ 12 → k ≠ 13 → ya k = ma k) (hr : (0 ≤ yi 22 ∧ yi 22 ≤ 8) ∧ (∀ k : Nat, -2147483648 ≤ ya 12 k ∧ ya 12 k < 2147483648) ∧ ∀ k : Nat, -2147483648 ≤ ya 13 k ∧ ya 13 k < 2147483648) : MOk yi ya := by
  obtain ⟨g1, g2, g3, g4, g5, g6, g7, g8⟩ := h
  refine ⟨MRv_eq (hx 1 (by decide)) (hx 2 (by decide)) (ha 1 (by decide) (by decide)) (ha 2 (by decide) (by decide)) (ha 3 (by decide) (by decide)) (ha 4 (by decide) (by decide)) g1, by rw [hx 1 (by decide)]; exact g2, ?_, ?_, ?_, ?_, hr, by rw [hx 0 (by decide)]; exact g8⟩
  · rw [ha 5 (by decide) (by decide), ha 6 (by decide) (by decide), ha 7 (by decide) (by decide), ha 8 (by decide) (by decide)]; exact g3
  · rw [ha 14 (by decide) (by decide), ha 15 (by decide) (by decide)]; exact g4
  · rw [ha 16 (by decide) (by decide)]; exact g5
  · rw [ha 17 (by decide) (by decide)]; exact g6
theorem up_rng32 {g : Nat → Int} {i : Nat} {v : Int} (h : ∀ k : Nat, -2147483648 ≤ g k ∧ g k < 2147483648) (hv : -2147483648 ≤ v ∧ v < 2147483648) : ∀ k : Nat, -2147483648 ≤ va_up g i v k ∧ va_up g i v k < 2147483648 := by
  intro k
  by_cases hk : k = i
  · rw [hk, up_s]; exact hv
  · rw [up_n hk]; exact h k
