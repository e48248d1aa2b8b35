theorem vM_pa {mi : Nat → Int} {ma : Nat → Nat → Int} {v : Int} : vM (va_up mi 2 v) ma = sP (vM mi ma) v := by
  have hu : ∀ k, k ≠ 2 → va_up mi 2 v k = mi k := fun k h => up_n h
  refine av_ext (hu 29 (by decide)) (hu 0 (by decide)) (rvM_eq (hu 1 (by decide)) rfl rfl rfl rfl) (show va_up mi 2 v 2 = v from up_s) rfl rfl rfl (hu 22 (by decide)) ?_ ?_
  · show nrm (va_up mi 2 v 22) (ma 12) = nrm (mi 22) (ma 12)
    rw [hu 22 (by decide)]
  · show nrm (va_up mi 2 v 22) (ma 13) = nrm (mi 22) (ma 13)
    rw [hu 22 (by decide)]
theorem MOk_pa {mi : Nat → Int} {ma : Nat → Nat → Int} {v : Int} (h : MOk mi ma) (hv : 0 ≤ v ∧ v ≤ 3) : MOk (va_up mi 2 v) ma := by
  obtain ⟨⟨a1, a2, a3⟩, g2, g3, g4, g5, g6, g7, g8⟩ := h
  refine ⟨⟨by rw [up_n (by decide)]; exact a1, by rw [up_s]; exact hv, a3⟩, by rw [up_n (by decide)]; exact g2, g3, g4, g5, g6, ?_, by rw [up_n (by decide)]; exact g8⟩
  rw [up_n (by decide)]
  exact g7
theorem vM_br {mi : Nat → Int} {ma : Nat → Nat → Int} {k : Nat} {v : Int} (hk : (k : Int) < mi 1) : vM mi (va_up ma 4 (va_up (ma 4) k v)) = sR (vM mi ma) (setB (aR (vM mi ma)) k v) := by
  refine av_ext rfl rfl ?_ rfl ?_ ?_ ?_ rfl ?_ ?_
  · show rvM _ _ = setB (rvM mi ma) k v
    unfold rvM setB
    rw [up_n (by decide), up_n (by decide), up_n (by decide), up_s, nrm_up hk]
  · show lanM _ = lanM ma
    unfold lanM
    rw [up_n (by decide), up_n (by decide)]
  · show lenM _ = lenM ma
    unfold lenM
    rw [up_n (by decide)]
  · show numM _ = numM ma
    unfold numM lenM
    rw [up_n (by decide), up_n (by decide)]
  · show nrm (mi 22) (va_up ma 4 _ 12) = nrm (mi 22) (ma 12)
    rw [up_n (by decide)]
  · show nrm (mi 22) (va_up ma 4 _ 13) = nrm (mi 22) (ma 13)
    rw [up_n (by decide)]
theorem MOk_br {mi : Nat → Int} {ma : Nat → Nat → Int} {k : Nat} {v : Int} (h : MOk mi ma) (hv : v = 0 ∨ v = 1) : MOk mi (va_up ma 4 (va_up (ma 4) k v)) := by
  obtain ⟨⟨a1, a2, a3, a4, a5, a6⟩, g2, g3, g4, g5, g6, g7, g8⟩ := h
  refine ⟨⟨a1, a2, ?_, ?_, ?_, ?_⟩, g2, ?_, ?_, ?_, ?_, ?_, g8⟩
  · rw [up_n (by decide)]; exact a3
  · rw [up_n (by decide)]; exact a4
  · rw [up_n (by decide)]; exact a5
  · rw [up_s]; exact up_bit a6 hv
  · rw [up_n (by decide), up_n (by decide), up_n (by decide), up_n (by decide)]; exact g3
  · rw [up_n (by decide), up_n (by decide)]; exact g4
  · rw [up_n (by decide)]; exact g5
  · rw [up_n (by decide)]; exact g6
  · rw [up_n (by decide), up_n (by decide)]; exact g7
