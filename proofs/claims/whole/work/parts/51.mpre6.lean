theorem vM_sh {mi yi : Nat → Int} {ma ya : Nat → Nat → Int} {j : Nat} {l n : Int} {g : Nat → Int} (hj : j < 4) (hx : ∀ k, k ≠ 0 → yi k = mi k) (ha : ∀ k, k ≠ 14 → k ≠ 15 → k ≠ 16 → k ≠ 17 → ya k = ma k) (h14 : ∀ i, i ≠ j → ya 14 i = ma 14 i) (h15 : ∀ i, i ≠ j → ya 15 i = ma 15 i) (hle : ∀ i, ma 14 i ≤ 60) (h16 : ∀ i, i ≠ j → ∀ k : Nat, k < 60 → ya 16 (60 * i + k) = ma 16 (60 * i + k)) (hl : lanM ya j = l) (hn : lenM ya j = n) (hg : numM ya j = g) : vM yi ya = sSh (sFa (vM mi ma) (yi 0)) (va_up (lanM ma) j l) (va_up (lenM ma) j n) (va_up (numM ma) j g) := by
  refine av_ext (hx 29 (by decide)) rfl (rvM_eq (hx 1 (by decide)) (ha 1 (by decide) (by decide) (by decide) (by decide)) (ha 2 (by decide) (by decide) (by decide) (by decide)) (ha 3 (by decide) (by decide) (by decide) (by decide)) (ha 4 (by decide) (by decide) (by decide) (by decide))) (hx 2 (by decide)) ?_ ?_ ?_ (hx 22 (by decide)) ?_ ?_
  · show lanM ya = va_up (lanM ma) j l
    funext i
    by_cases hi : i = j
    · rw [hi, up_s]; exact hl
    · rw [up_n hi]
      unfold lanM
      rw [h14 i hi, h15 i hi]
  · show lenM ya = va_up (lenM ma) j n
    funext i
    by_cases hi : i = j
    · rw [hi, up_s]; exact hn
    · rw [up_n hi]
      unfold lenM
      rw [h14 i hi]
  · show numM ya = va_up (numM ma) j g
    funext i
    by_cases hi : i = j
    · rw [hi, up_s]; exact hg
    · rw [up_n hi]
      have e1 : lenM ya i = lenM ma i := by
        unfold lenM
        rw [h14 i hi]
      unfold numM
      by_cases h4 : i < 4
      · rw [if_pos h4, if_pos h4, e1]
        funext k
        unfold nrm
        by_cases hk : (k : Int) < lenM ma i
        · rw [if_pos hk, if_pos hk]
          refine h16 i hi k ?_
          have h60 := hle i
          rw [lenM_in h4] at hk
          split at hk <;> omega
        · rw [if_neg hk, if_neg hk]
      · rw [if_neg h4, if_neg h4]
  · show nrm (yi 22) (ya 12) = nrm (mi 22) (ma 12)
    rw [hx 22 (by decide), ha 12 (by decide) (by decide) (by decide) (by decide)]
  · show nrm (yi 22) (ya 13) = nrm (mi 22) (ma 13)
    rw [hx 22 (by decide), ha 13 (by decide) (by decide) (by decide) (by decide)]
theorem MOk_sh {mi yi : Nat → Int} {ma ya : Nat → Nat → Int} (h : MOk mi ma) (hx : ∀ k, k ≠ 0 → yi k = mi k) (ha : ∀ k, k ≠ 14 → k ≠ 15 → k ≠ 16 → k ≠ 17 → ya k = ma k) (hs : ∀ j : Nat, (-1 ≤ ya 14 j ∧ ya 14 j ≤ 60) ∧ (0 ≤ ya 15 j ∧ ya 15 j ≤ 2)) (h16 : ∀ k : Nat, -2147483648 ≤ ya 16 k ∧ ya 16 k < 2147483648) (h17 : ∀ k : Nat, -2147483648 ≤ ya 17 k ∧ ya 17 k < 2147483648) (hf : 0 ≤ yi 0 ∧ yi 0 ≤ 4) : MOk yi ya := by
  obtain ⟨g1, g2, g3, g4, g5, g6, g7, g8⟩ := h
  refine ⟨MRv_eq (hx 1 (by decide)) (hx 2 (by decide)) (ha 1 (by decide) (by decide) (by decide) (by decide)) (ha 2 (by decide) (by decide) (by decide) (by decide)) (ha 3 (by decide) (by decide) (by decide) (by decide)) (ha 4 (by decide) (by decide) (by decide) (by decide)) g1, by rw [hx 1 (by decide)]; exact g2, ?_, hs, h16, h17, ?_, hf⟩
  · rw [ha 5 (by decide) (by decide) (by decide) (by decide), ha 6 (by decide) (by decide) (by decide) (by decide), ha 7 (by decide) (by decide) (by decide) (by decide), ha 8 (by decide) (by decide) (by decide) (by decide)]; exact g3
  · rw [hx 22 (by decide), ha 12 (by decide) (by decide) (by decide) (by decide), ha 13 (by decide) (by decide) (by decide) (by decide)]; exact g7
